theorem hd_Model_newList : y_Model_newList.cls ≠ "java/lang/invoke/MethodHandle" ∧ y_Model_newList.cls ≠ "java/lang/invoke/VarHandle" ∧ (parseMethodDescriptor y_Model_newList.desc).map (fun d => d.parameters.length) = some 1 := by decide +kernel
theorem d_Model_turtles_0 : decode b_Model_turtles 0 = .ok (.aload_n 0, 1) := by decide +kernel
theorem d_Model_turtles_1 : decode b_Model_turtles 1 = .ok (.getfield 366, 3) := by decide +kernel
theorem d_Model_turtles_4 : decode b_Model_turtles 4 = .ok (.istore 4, 2) := by decide +kernel
theorem d_Model_turtles_6 : decode b_Model_turtles 6 = .ok (.iload_n 1, 1) := by decide +kernel
theorem d_Model_turtles_7 : decode b_Model_turtles 7 = .ok (.tableswitch 504 0 17 #[85, 85, 124, 124, 124, 197, 197, 219, 247, 269, 321, 350, 359, 373, 399, 425, 436, 444], 85) := by decide +kernel
theorem d_Model_turtles_92 : decode b_Model_turtles 92 = .ok (.iload_n 2, 1) := by decide +kernel
theorem d_Model_turtles_93 : decode b_Model_turtles 93 = .ok (.sipush (-1000), 3) := by decide +kernel
theorem d_Model_turtles_96 : decode b_Model_turtles 96 = .ok (.if_icmp .lt 10, 3) := by decide +kernel
theorem d_Model_turtles_99 : decode b_Model_turtles 99 = .ok (.iload_n 2, 1) := by decide +kernel
theorem d_Model_turtles_100 : decode b_Model_turtles 100 = .ok (.sipush 1000, 3) := by decide +kernel
theorem d_Model_turtles_103 : decode b_Model_turtles 103 = .ok (.if_icmp .le 11, 3) := by decide +kernel
theorem d_Model_turtles_106 : decode b_Model_turtles 106 = .ok (.aload_n 0, 1) := by decide +kernel
theorem d_Model_turtles_107 : decode b_Model_turtles 107 = .ok (.iconst 3, 1) := by decide +kernel
theorem d_Model_turtles_108 : decode b_Model_turtles 108 = .ok (.invokevirtual 596, 3) := by decide +kernel
theorem d_Model_turtles_111 : decode b_Model_turtles 111 = .ok (.goto 19, 3) := by decide +kernel
theorem d_Model_turtles_114 : decode b_Model_turtles 114 = .ok (.aload_n 0, 1) := by decide +kernel
theorem d_Model_turtles_115 : decode b_Model_turtles 115 = .ok (.iload 4, 2) := by decide +kernel
theorem d_Model_turtles_117 : decode b_Model_turtles 117 = .ok (.iload_n 1, 1) := by decide +kernel
theorem d_Model_turtles_118 : decode b_Model_turtles 118 = .ok (.ifCond .ne 7, 3) := by decide +kernel
theorem d_Model_turtles_121 : decode b_Model_turtles 121 = .ok (.iload_n 2, 1) := by decide +kernel
theorem d_Model_turtles_122 : decode b_Model_turtles 122 = .ok (.goto 5, 3) := by decide +kernel
theorem d_Model_turtles_125 : decode b_Model_turtles 125 = .ok (.iload_n 2, 1) := by decide +kernel
theorem d_Model_turtles_126 : decode b_Model_turtles 126 = .ok (.ineg, 1) := by decide +kernel
theorem d_Model_turtles_127 : decode b_Model_turtles 127 = .ok (.invokevirtual 813, 3) := by decide +kernel
theorem d_Model_turtles_130 : decode b_Model_turtles 130 = .ok (.lreturn, 1) := by decide +kernel
theorem d_Model_turtles_131 : decode b_Model_turtles 131 = .ok (.iload_n 2, 1) := by decide +kernel
theorem d_Model_turtles_132 : decode b_Model_turtles 132 = .ok (.bipush 30, 2) := by decide +kernel
theorem d_Model_turtles_134 : decode b_Model_turtles 134 = .ok (.irem, 1) := by decide +kernel
theorem d_Model_turtles_135 : decode b_Model_turtles 135 = .ok (.ifCond .eq 9, 3) := by decide +kernel
theorem d_Model_turtles_138 : decode b_Model_turtles 138 = .ok (.aload_n 0, 1) := by decide +kernel
theorem d_Model_turtles_139 : decode b_Model_turtles 139 = .ok (.iconst 3, 1) := by decide +kernel
theorem d_Model_turtles_140 : decode b_Model_turtles 140 = .ok (.invokevirtual 596, 3) := by decide +kernel
theorem d_Model_turtles_143 : decode b_Model_turtles 143 = .ok (.lreturn, 1) := by decide +kernel
theorem d_Model_turtles_144 : decode b_Model_turtles 144 = .ok (.aload_n 0, 1) := by decide +kernel
theorem d_Model_turtles_145 : decode b_Model_turtles 145 = .ok (.getfield 213, 3) := by decide +kernel
theorem d_Model_turtles_148 : decode b_Model_turtles 148 = .ok (.iload 4, 2) := by decide +kernel
theorem d_Model_turtles_150 : decode b_Model_turtles 150 = .ok (.iload_n 1, 1) := by decide +kernel
theorem d_Model_turtles_151 : decode b_Model_turtles 151 = .ok (.iconst 4, 1) := by decide +kernel
theorem d_Model_turtles_152 : decode b_Model_turtles 152 = .ok (.if_icmp .ne 10, 3) := by decide +kernel
theorem d_Model_turtles_155 : decode b_Model_turtles 155 = .ok (.iload_n 2, 1) := by decide +kernel
theorem d_Model_turtles_156 : decode b_Model_turtles 156 = .ok (.bipush 30, 2) := by decide +kernel
theorem d_Model_turtles_158 : decode b_Model_turtles 158 = .ok (.idiv, 1) := by decide +kernel
theorem d_Model_turtles_159 : decode b_Model_turtles 159 = .ok (.goto 35, 3) := by decide +kernel
theorem d_Model_turtles_162 : decode b_Model_turtles 162 = .ok (.iload_n 1, 1) := by decide +kernel
theorem d_Model_turtles_163 : decode b_Model_turtles 163 = .ok (.iconst 2, 1) := by decide +kernel
theorem d_Model_turtles_164 : decode b_Model_turtles 164 = .ok (.if_icmp .ne 18, 3) := by decide +kernel
theorem d_Model_turtles_167 : decode b_Model_turtles 167 = .ok (.aload_n 0, 1) := by decide +kernel
theorem d_Model_turtles_168 : decode b_Model_turtles 168 = .ok (.getfield 213, 3) := by decide +kernel
theorem d_Model_turtles_171 : decode b_Model_turtles 171 = .ok (.iload 4, 2) := by decide +kernel
theorem d_Model_turtles_173 : decode b_Model_turtles 173 = .ok (.iaload, 1) := by decide +kernel
theorem d_Model_turtles_174 : decode b_Model_turtles 174 = .ok (.iload_n 2, 1) := by decide +kernel
theorem d_Model_turtles_175 : decode b_Model_turtles 175 = .ok (.bipush 30, 2) := by decide +kernel
theorem d_Model_turtles_177 : decode b_Model_turtles 177 = .ok (.idiv, 1) := by decide +kernel
theorem d_Model_turtles_178 : decode b_Model_turtles 178 = .ok (.iadd, 1) := by decide +kernel
theorem d_Model_turtles_179 : decode b_Model_turtles 179 = .ok (.goto 15, 3) := by decide +kernel
theorem d_Model_turtles_182 : decode b_Model_turtles 182 = .ok (.aload_n 0, 1) := by decide +kernel
theorem d_Model_turtles_183 : decode b_Model_turtles 183 = .ok (.getfield 213, 3) := by decide +kernel
theorem d_Model_turtles_186 : decode b_Model_turtles 186 = .ok (.iload 4, 2) := by decide +kernel
theorem d_Model_turtles_188 : decode b_Model_turtles 188 = .ok (.iaload, 1) := by decide +kernel
theorem d_Model_turtles_189 : decode b_Model_turtles 189 = .ok (.iload_n 2, 1) := by decide +kernel
theorem d_Model_turtles_190 : decode b_Model_turtles 190 = .ok (.bipush 30, 2) := by decide +kernel
theorem d_Model_turtles_192 : decode b_Model_turtles 192 = .ok (.idiv, 1) := by decide +kernel
theorem d_Model_turtles_193 : decode b_Model_turtles 193 = .ok (.isub, 1) := by decide +kernel
theorem d_Model_turtles_194 : decode b_Model_turtles 194 = .ok (.bipush 12, 2) := by decide +kernel
theorem d_Model_turtles_196 : decode b_Model_turtles 196 = .ok (.invokestatic 816, 3) := by decide +kernel
theorem d_Model_turtles_199 : decode b_Model_turtles 199 = .ok (.iastore, 1) := by decide +kernel
theorem d_Model_turtles_200 : decode b_Model_turtles 200 = .ok (.ldc2_w 7, 3) := by decide +kernel
theorem d_Model_turtles_203 : decode b_Model_turtles 203 = .ok (.lreturn, 1) := by decide +kernel
theorem d_Model_turtles_204 : decode b_Model_turtles 204 = .ok (.aload_n 0, 1) := by decide +kernel
theorem d_Model_turtles_205 : decode b_Model_turtles 205 = .ok (.getfield 219, 3) := by decide +kernel
theorem d_Model_turtles_208 : decode b_Model_turtles 208 = .ok (.iload 4, 2) := by decide +kernel
theorem d_Model_turtles_210 : decode b_Model_turtles 210 = .ok (.iload_n 1, 1) := by decide +kernel
theorem d_Model_turtles_211 : decode b_Model_turtles 211 = .ok (.bipush 6, 2) := by decide +kernel
theorem d_Model_turtles_213 : decode b_Model_turtles 213 = .ok (.if_icmp .ne 7, 3) := by decide +kernel
theorem d_Model_turtles_216 : decode b_Model_turtles 216 = .ok (.iconst 1, 1) := by decide +kernel
theorem d_Model_turtles_217 : decode b_Model_turtles 217 = .ok (.goto 4, 3) := by decide +kernel
theorem d_Model_turtles_220 : decode b_Model_turtles 220 = .ok (.iconst 0, 1) := by decide +kernel
theorem d_Model_turtles_221 : decode b_Model_turtles 221 = .ok (.iastore, 1) := by decide +kernel
theorem d_Model_turtles_222 : decode b_Model_turtles 222 = .ok (.ldc2_w 7, 3) := by decide +kernel
theorem d_Model_turtles_225 : decode b_Model_turtles 225 = .ok (.lreturn, 1) := by decide +kernel
theorem d_Model_turtles_226 : decode b_Model_turtles 226 = .ok (.iload_n 2, 1) := by decide +kernel
theorem d_Model_turtles_227 : decode b_Model_turtles 227 = .ok (.ifCond .lt 9, 3) := by decide +kernel
theorem d_Model_turtles_230 : decode b_Model_turtles 230 = .ok (.iload_n 2, 1) := by decide +kernel
theorem d_Model_turtles_231 : decode b_Model_turtles 231 = .ok (.bipush 7, 2) := by decide +kernel
theorem d_Model_turtles_233 : decode b_Model_turtles 233 = .ok (.if_icmp .le 9, 3) := by decide +kernel
theorem d_Model_turtles_236 : decode b_Model_turtles 236 = .ok (.aload_n 0, 1) := by decide +kernel
theorem d_Model_turtles_237 : decode b_Model_turtles 237 = .ok (.iconst 3, 1) := by decide +kernel
theorem d_Model_turtles_238 : decode b_Model_turtles 238 = .ok (.invokevirtual 596, 3) := by decide +kernel
theorem d_Model_turtles_241 : decode b_Model_turtles 241 = .ok (.lreturn, 1) := by decide +kernel
theorem d_Model_turtles_242 : decode b_Model_turtles 242 = .ok (.aload_n 0, 1) := by decide +kernel
theorem d_Model_turtles_243 : decode b_Model_turtles 243 = .ok (.getfield 216, 3) := by decide +kernel
theorem d_Model_turtles_246 : decode b_Model_turtles 246 = .ok (.iload 4, 2) := by decide +kernel
theorem d_Model_turtles_248 : decode b_Model_turtles 248 = .ok (.iload_n 2, 1) := by decide +kernel
theorem d_Model_turtles_249 : decode b_Model_turtles 249 = .ok (.iastore, 1) := by decide +kernel
theorem d_Model_turtles_250 : decode b_Model_turtles 250 = .ok (.ldc2_w 7, 3) := by decide +kernel
theorem d_Model_turtles_253 : decode b_Model_turtles 253 = .ok (.lreturn, 1) := by decide +kernel
theorem d_Model_turtles_254 : decode b_Model_turtles 254 = .ok (.aload_n 0, 1) := by decide +kernel
theorem d_Model_turtles_255 : decode b_Model_turtles 255 = .ok (.iload 4, 2) := by decide +kernel
theorem d_Model_turtles_257 : decode b_Model_turtles 257 = .ok (.iconst 0, 1) := by decide +kernel
theorem d_Model_turtles_258 : decode b_Model_turtles 258 = .ok (.iconst 0, 1) := by decide +kernel
theorem d_Model_turtles_259 : decode b_Model_turtles 259 = .ok (.iconst 0, 1) := by decide +kernel
theorem d_Model_turtles_260 : decode b_Model_turtles 260 = .ok (.iconst 0, 1) := by decide +kernel
theorem d_Model_turtles_261 : decode b_Model_turtles 261 = .ok (.invokevirtual 819, 3) := by decide +kernel
theorem d_Model_turtles_264 : decode b_Model_turtles 264 = .ok (.aload_n 0, 1) := by decide +kernel
theorem d_Model_turtles_265 : decode b_Model_turtles 265 = .ok (.getfield 213, 3) := by decide +kernel
theorem d_Model_turtles_268 : decode b_Model_turtles 268 = .ok (.iload 4, 2) := by decide +kernel
theorem d_Model_turtles_270 : decode b_Model_turtles 270 = .ok (.iconst 0, 1) := by decide +kernel
theorem d_Model_turtles_271 : decode b_Model_turtles 271 = .ok (.iastore, 1) := by decide +kernel
theorem d_Model_turtles_272 : decode b_Model_turtles 272 = .ok (.ldc2_w 7, 3) := by decide +kernel
theorem d_Model_turtles_275 : decode b_Model_turtles 275 = .ok (.lreturn, 1) := by decide +kernel
theorem d_Model_turtles_276 : decode b_Model_turtles 276 = .ok (.iload_n 2, 1) := by decide +kernel
theorem d_Model_turtles_277 : decode b_Model_turtles 277 = .ok (.sipush (-30000), 3) := by decide +kernel
theorem d_Model_turtles_280 : decode b_Model_turtles 280 = .ok (.if_icmp .lt 24, 3) := by decide +kernel
theorem d_Model_turtles_283 : decode b_Model_turtles 283 = .ok (.iload_n 2, 1) := by decide +kernel
theorem d_Model_turtles_284 : decode b_Model_turtles 284 = .ok (.sipush 30000, 3) := by decide +kernel
theorem d_Model_turtles_287 : decode b_Model_turtles 287 = .ok (.if_icmp .gt 17, 3) := by decide +kernel
theorem d_Model_turtles_290 : decode b_Model_turtles 290 = .ok (.iload_n 3, 1) := by decide +kernel
theorem d_Model_turtles_291 : decode b_Model_turtles 291 = .ok (.sipush (-30000), 3) := by decide +kernel
theorem d_Model_turtles_294 : decode b_Model_turtles 294 = .ok (.if_icmp .lt 10, 3) := by decide +kernel
theorem d_Model_turtles_297 : decode b_Model_turtles 297 = .ok (.iload_n 3, 1) := by decide +kernel
theorem d_Model_turtles_298 : decode b_Model_turtles 298 = .ok (.sipush 30000, 3) := by decide +kernel
theorem d_Model_turtles_301 : decode b_Model_turtles 301 = .ok (.if_icmp .le 9, 3) := by decide +kernel
theorem d_Model_turtles_304 : decode b_Model_turtles 304 = .ok (.aload_n 0, 1) := by decide +kernel
theorem d_Model_turtles_305 : decode b_Model_turtles 305 = .ok (.iconst 3, 1) := by decide +kernel
theorem d_Model_turtles_306 : decode b_Model_turtles 306 = .ok (.invokevirtual 596, 3) := by decide +kernel
theorem d_Model_turtles_309 : decode b_Model_turtles 309 = .ok (.lreturn, 1) := by decide +kernel
theorem d_Model_turtles_310 : decode b_Model_turtles 310 = .ok (.aload_n 0, 1) := by decide +kernel
theorem d_Model_turtles_311 : decode b_Model_turtles 311 = .ok (.iload 4, 2) := by decide +kernel
theorem d_Model_turtles_313 : decode b_Model_turtles 313 = .ok (.iconst 2, 1) := by decide +kernel
theorem d_Model_turtles_314 : decode b_Model_turtles 314 = .ok (.iload_n 2, 1) := by decide +kernel
theorem d_Model_turtles_315 : decode b_Model_turtles 315 = .ok (.imul, 1) := by decide +kernel
theorem d_Model_turtles_316 : decode b_Model_turtles 316 = .ok (.iconst 0, 1) := by decide +kernel
theorem d_Model_turtles_317 : decode b_Model_turtles 317 = .ok (.iconst 2, 1) := by decide +kernel
theorem d_Model_turtles_318 : decode b_Model_turtles 318 = .ok (.iload_n 3, 1) := by decide +kernel
theorem d_Model_turtles_319 : decode b_Model_turtles 319 = .ok (.imul, 1) := by decide +kernel
theorem d_Model_turtles_320 : decode b_Model_turtles 320 = .ok (.iconst 0, 1) := by decide +kernel
theorem d_Model_turtles_321 : decode b_Model_turtles 321 = .ok (.invokevirtual 819, 3) := by decide +kernel
theorem d_Model_turtles_324 : decode b_Model_turtles 324 = .ok (.ldc2_w 7, 3) := by decide +kernel
theorem d_Model_turtles_327 : decode b_Model_turtles 327 = .ok (.lreturn, 1) := by decide +kernel
theorem d_Model_turtles_328 : decode b_Model_turtles 328 = .ok (.iconst 0, 1) := by decide +kernel
theorem d_Model_turtles_329 : decode b_Model_turtles 329 = .ok (.istore 5, 2) := by decide +kernel
theorem d_Model_turtles_331 : decode b_Model_turtles 331 = .ok (.iload 5, 2) := by decide +kernel
theorem d_Model_turtles_333 : decode b_Model_turtles 333 = .ok (.sipush 4096, 3) := by decide +kernel
theorem d_Model_turtles_336 : decode b_Model_turtles 336 = .ok (.if_icmp .ge 17, 3) := by decide +kernel
theorem d_Model_turtles_339 : decode b_Model_turtles 339 = .ok (.aload_n 0, 1) := by decide +kernel
theorem d_Model_turtles_340 : decode b_Model_turtles 340 = .ok (.getfield 222, 3) := by decide +kernel
theorem d_Model_turtles_343 : decode b_Model_turtles 343 = .ok (.iload 5, 2) := by decide +kernel
theorem d_Model_turtles_345 : decode b_Model_turtles 345 = .ok (.iconst 0, 1) := by decide +kernel
theorem d_Model_turtles_346 : decode b_Model_turtles 346 = .ok (.iastore, 1) := by decide +kernel
theorem d_Model_turtles_347 : decode b_Model_turtles 347 = .ok (.iinc 5 1, 3) := by decide +kernel
theorem d_Model_turtles_350 : decode b_Model_turtles 350 = .ok (.goto (-19), 3) := by decide +kernel
theorem d_Model_turtles_353 : decode b_Model_turtles 353 = .ok (.ldc2_w 7, 3) := by decide +kernel
theorem d_Model_turtles_356 : decode b_Model_turtles 356 = .ok (.lreturn, 1) := by decide +kernel
theorem d_Model_turtles_357 : decode b_Model_turtles 357 = .ok (.aload_n 0, 1) := by decide +kernel
theorem d_Model_turtles_358 : decode b_Model_turtles 358 = .ok (.iload_n 2, 1) := by decide +kernel
theorem d_Model_turtles_359 : decode b_Model_turtles 359 = .ok (.putfield 366, 3) := by decide +kernel
theorem d_Model_turtles_362 : decode b_Model_turtles 362 = .ok (.ldc2_w 7, 3) := by decide +kernel
theorem d_Model_turtles_365 : decode b_Model_turtles 365 = .ok (.lreturn, 1) := by decide +kernel
theorem d_Model_turtles_366 : decode b_Model_turtles 366 = .ok (.bipush 30, 2) := by decide +kernel
theorem d_Model_turtles_368 : decode b_Model_turtles 368 = .ok (.aload_n 0, 1) := by decide +kernel
theorem d_Model_turtles_369 : decode b_Model_turtles 369 = .ok (.getfield 213, 3) := by decide +kernel
theorem d_Model_turtles_372 : decode b_Model_turtles 372 = .ok (.iload 4, 2) := by decide +kernel
theorem d_Model_turtles_374 : decode b_Model_turtles 374 = .ok (.iaload, 1) := by decide +kernel
theorem d_Model_turtles_375 : decode b_Model_turtles 375 = .ok (.imul, 1) := by decide +kernel
theorem d_Model_turtles_376 : decode b_Model_turtles 376 = .ok (.invokestatic 451, 3) := by decide +kernel
theorem d_Model_turtles_379 : decode b_Model_turtles 379 = .ok (.lreturn, 1) := by decide +kernel
theorem d_Model_turtles_380 : decode b_Model_turtles 380 = .ok (.aload_n 0, 1) := by decide +kernel
theorem d_Model_turtles_381 : decode b_Model_turtles 381 = .ok (.getfield 201, 3) := by decide +kernel
theorem d_Model_turtles_384 : decode b_Model_turtles 384 = .ok (.iload 4, 2) := by decide +kernel
theorem d_Model_turtles_386 : decode b_Model_turtles 386 = .ok (.iaload, 1) := by decide +kernel
theorem d_Model_turtles_387 : decode b_Model_turtles 387 = .ok (.i2l, 1) := by decide +kernel
theorem d_Model_turtles_388 : decode b_Model_turtles 388 = .ok (.aload_n 0, 1) := by decide +kernel
theorem d_Model_turtles_389 : decode b_Model_turtles 389 = .ok (.getfield 204, 3) := by decide +kernel
theorem d_Model_turtles_392 : decode b_Model_turtles 392 = .ok (.iload 4, 2) := by decide +kernel
theorem d_Model_turtles_394 : decode b_Model_turtles 394 = .ok (.iaload, 1) := by decide +kernel
theorem d_Model_turtles_395 : decode b_Model_turtles 395 = .ok (.i2l, 1) := by decide +kernel
theorem d_Model_turtles_396 : decode b_Model_turtles 396 = .ok (.ldc2_w 9, 3) := by decide +kernel
theorem d_Model_turtles_399 : decode b_Model_turtles 399 = .ok (.invokestatic 823, 3) := by decide +kernel
theorem d_Model_turtles_402 : decode b_Model_turtles 402 = .ok (.invokestatic 451, 3) := by decide +kernel
theorem d_Model_turtles_405 : decode b_Model_turtles 405 = .ok (.lreturn, 1) := by decide +kernel
theorem d_Model_turtles_406 : decode b_Model_turtles 406 = .ok (.aload_n 0, 1) := by decide +kernel
theorem d_Model_turtles_407 : decode b_Model_turtles 407 = .ok (.getfield 207, 3) := by decide +kernel
theorem d_Model_turtles_410 : decode b_Model_turtles 410 = .ok (.iload 4, 2) := by decide +kernel
theorem d_Model_turtles_412 : decode b_Model_turtles 412 = .ok (.iaload, 1) := by decide +kernel
theorem d_Model_turtles_413 : decode b_Model_turtles 413 = .ok (.i2l, 1) := by decide +kernel
theorem d_Model_turtles_414 : decode b_Model_turtles 414 = .ok (.aload_n 0, 1) := by decide +kernel
theorem d_Model_turtles_415 : decode b_Model_turtles 415 = .ok (.getfield 210, 3) := by decide +kernel
theorem d_Model_turtles_418 : decode b_Model_turtles 418 = .ok (.iload 4, 2) := by decide +kernel
theorem d_Model_turtles_420 : decode b_Model_turtles 420 = .ok (.iaload, 1) := by decide +kernel
theorem d_Model_turtles_421 : decode b_Model_turtles 421 = .ok (.i2l, 1) := by decide +kernel
theorem d_Model_turtles_422 : decode b_Model_turtles 422 = .ok (.ldc2_w 9, 3) := by decide +kernel
theorem d_Model_turtles_425 : decode b_Model_turtles 425 = .ok (.invokestatic 823, 3) := by decide +kernel
theorem d_Model_turtles_428 : decode b_Model_turtles 428 = .ok (.invokestatic 451, 3) := by decide +kernel
theorem d_Model_turtles_431 : decode b_Model_turtles 431 = .ok (.lreturn, 1) := by decide +kernel
theorem d_Model_turtles_432 : decode b_Model_turtles 432 = .ok (.aload_n 0, 1) := by decide +kernel
theorem d_Model_turtles_433 : decode b_Model_turtles 433 = .ok (.getfield 216, 3) := by decide +kernel
theorem d_Model_turtles_436 : decode b_Model_turtles 436 = .ok (.iload 4, 2) := by decide +kernel
theorem d_Model_turtles_438 : decode b_Model_turtles 438 = .ok (.iaload, 1) := by decide +kernel
theorem d_Model_turtles_439 : decode b_Model_turtles 439 = .ok (.invokestatic 451, 3) := by decide +kernel
theorem d_Model_turtles_442 : decode b_Model_turtles 442 = .ok (.lreturn, 1) := by decide +kernel
theorem d_Model_turtles_443 : decode b_Model_turtles 443 = .ok (.aload_n 0, 1) := by decide +kernel
theorem d_Model_turtles_444 : decode b_Model_turtles 444 = .ok (.getfield 366, 3) := by decide +kernel
theorem d_Model_turtles_447 : decode b_Model_turtles 447 = .ok (.invokestatic 451, 3) := by decide +kernel
theorem d_Model_turtles_450 : decode b_Model_turtles 450 = .ok (.lreturn, 1) := by decide +kernel
theorem d_Model_turtles_451 : decode b_Model_turtles 451 = .ok (.iconst 0, 1) := by decide +kernel
theorem d_Model_turtles_452 : decode b_Model_turtles 452 = .ok (.aload_n 0, 1) := by decide +kernel
theorem d_Model_turtles_453 : decode b_Model_turtles 453 = .ok (.aload_n 0, 1) := by decide +kernel
theorem d_Model_turtles_454 : decode b_Model_turtles 454 = .ok (.getfield 201, 3) := by decide +kernel
theorem d_Model_turtles_457 : decode b_Model_turtles 457 = .ok (.iload 4, 2) := by decide +kernel
theorem d_Model_turtles_459 : decode b_Model_turtles 459 = .ok (.iaload, 1) := by decide +kernel
theorem d_Model_turtles_460 : decode b_Model_turtles 460 = .ok (.iconst 1, 1) := by decide +kernel
theorem d_Model_turtles_461 : decode b_Model_turtles 461 = .ok (.iadd, 1) := by decide +kernel
theorem d_Model_turtles_462 : decode b_Model_turtles 462 = .ok (.i2l, 1) := by decide +kernel
theorem d_Model_turtles_463 : decode b_Model_turtles 463 = .ok (.aload_n 0, 1) := by decide +kernel
theorem d_Model_turtles_464 : decode b_Model_turtles 464 = .ok (.getfield 204, 3) := by decide +kernel
theorem d_Model_turtles_467 : decode b_Model_turtles 467 = .ok (.iload 4, 2) := by decide +kernel
theorem d_Model_turtles_469 : decode b_Model_turtles 469 = .ok (.iaload, 1) := by decide +kernel
theorem d_Model_turtles_470 : decode b_Model_turtles 470 = .ok (.i2l, 1) := by decide +kernel
theorem d_Model_turtles_471 : decode b_Model_turtles 471 = .ok (.ldc2_w 9, 3) := by decide +kernel
theorem d_Model_turtles_474 : decode b_Model_turtles 474 = .ok (.invokestatic 823, 3) := by decide +kernel
theorem d_Model_turtles_477 : decode b_Model_turtles 477 = .ok (.aload_n 0, 1) := by decide +kernel
theorem d_Model_turtles_478 : decode b_Model_turtles 478 = .ok (.getfield 207, 3) := by decide +kernel
theorem d_Model_turtles_481 : decode b_Model_turtles 481 = .ok (.iload 4, 2) := by decide +kernel
theorem d_Model_turtles_483 : decode b_Model_turtles 483 = .ok (.iaload, 1) := by decide +kernel
theorem d_Model_turtles_484 : decode b_Model_turtles 484 = .ok (.iconst 1, 1) := by decide +kernel
theorem d_Model_turtles_485 : decode b_Model_turtles 485 = .ok (.iadd, 1) := by decide +kernel
theorem d_Model_turtles_486 : decode b_Model_turtles 486 = .ok (.i2l, 1) := by decide +kernel
theorem d_Model_turtles_487 : decode b_Model_turtles 487 = .ok (.aload_n 0, 1) := by decide +kernel
theorem d_Model_turtles_488 : decode b_Model_turtles 488 = .ok (.getfield 210, 3) := by decide +kernel
theorem d_Model_turtles_491 : decode b_Model_turtles 491 = .ok (.iload 4, 2) := by decide +kernel
theorem d_Model_turtles_493 : decode b_Model_turtles 493 = .ok (.iaload, 1) := by decide +kernel
theorem d_Model_turtles_494 : decode b_Model_turtles 494 = .ok (.i2l, 1) := by decide +kernel
theorem d_Model_turtles_495 : decode b_Model_turtles 495 = .ok (.ldc2_w 9, 3) := by decide +kernel
theorem d_Model_turtles_498 : decode b_Model_turtles 498 = .ok (.invokestatic 823, 3) := by decide +kernel
theorem d_Model_turtles_501 : decode b_Model_turtles 501 = .ok (.invokevirtual 827, 3) := by decide +kernel
theorem d_Model_turtles_504 : decode b_Model_turtles 504 = .ok (.invokestatic 830, 3) := by decide +kernel
theorem d_Model_turtles_507 : decode b_Model_turtles 507 = .ok (.invokestatic 451, 3) := by decide +kernel
theorem d_Model_turtles_510 : decode b_Model_turtles 510 = .ok (.lreturn, 1) := by decide +kernel
theorem d_Model_turtles_511 : decode b_Model_turtles 511 = .ok (.aload_n 0, 1) := by decide +kernel
theorem d_Model_turtles_512 : decode b_Model_turtles 512 = .ok (.aload_n 0, 1) := by decide +kernel
theorem d_Model_turtles_513 : decode b_Model_turtles 513 = .ok (.getfield 201, 3) := by decide +kernel
theorem d_Model_turtles_516 : decode b_Model_turtles 516 = .ok (.iload_n 2, 1) := by decide +kernel
theorem d_Model_turtles_517 : decode b_Model_turtles 517 = .ok (.iaload, 1) := by decide +kernel
theorem d_Model_turtles_518 : decode b_Model_turtles 518 = .ok (.aload_n 0, 1) := by decide +kernel
theorem d_Model_turtles_519 : decode b_Model_turtles 519 = .ok (.getfield 201, 3) := by decide +kernel
theorem d_Model_turtles_522 : decode b_Model_turtles 522 = .ok (.iload_n 3, 1) := by decide +kernel
theorem d_Model_turtles_523 : decode b_Model_turtles 523 = .ok (.iaload, 1) := by decide +kernel
theorem d_Model_turtles_524 : decode b_Model_turtles 524 = .ok (.if_icmp .ne 52, 3) := by decide +kernel
theorem d_Model_turtles_527 : decode b_Model_turtles 527 = .ok (.aload_n 0, 1) := by decide +kernel
theorem d_Model_turtles_528 : decode b_Model_turtles 528 = .ok (.getfield 204, 3) := by decide +kernel
theorem d_Model_turtles_531 : decode b_Model_turtles 531 = .ok (.iload_n 2, 1) := by decide +kernel
theorem d_Model_turtles_532 : decode b_Model_turtles 532 = .ok (.iaload, 1) := by decide +kernel
theorem d_Model_turtles_533 : decode b_Model_turtles 533 = .ok (.aload_n 0, 1) := by decide +kernel
theorem d_Model_turtles_534 : decode b_Model_turtles 534 = .ok (.getfield 204, 3) := by decide +kernel
theorem d_Model_turtles_537 : decode b_Model_turtles 537 = .ok (.iload_n 3, 1) := by decide +kernel
theorem d_Model_turtles_538 : decode b_Model_turtles 538 = .ok (.iaload, 1) := by decide +kernel
theorem d_Model_turtles_539 : decode b_Model_turtles 539 = .ok (.if_icmp .ne 37, 3) := by decide +kernel
theorem d_Model_turtles_542 : decode b_Model_turtles 542 = .ok (.aload_n 0, 1) := by decide +kernel
theorem d_Model_turtles_543 : decode b_Model_turtles 543 = .ok (.getfield 207, 3) := by decide +kernel
theorem d_Model_turtles_546 : decode b_Model_turtles 546 = .ok (.iload_n 2, 1) := by decide +kernel
theorem d_Model_turtles_547 : decode b_Model_turtles 547 = .ok (.iaload, 1) := by decide +kernel
theorem d_Model_turtles_548 : decode b_Model_turtles 548 = .ok (.aload_n 0, 1) := by decide +kernel
theorem d_Model_turtles_549 : decode b_Model_turtles 549 = .ok (.getfield 207, 3) := by decide +kernel
theorem d_Model_turtles_552 : decode b_Model_turtles 552 = .ok (.iload_n 3, 1) := by decide +kernel
theorem d_Model_turtles_553 : decode b_Model_turtles 553 = .ok (.iaload, 1) := by decide +kernel
theorem d_Model_turtles_554 : decode b_Model_turtles 554 = .ok (.if_icmp .ne 22, 3) := by decide +kernel
theorem d_Model_turtles_557 : decode b_Model_turtles 557 = .ok (.aload_n 0, 1) := by decide +kernel
theorem d_Model_turtles_558 : decode b_Model_turtles 558 = .ok (.getfield 210, 3) := by decide +kernel
theorem d_Model_turtles_561 : decode b_Model_turtles 561 = .ok (.iload_n 2, 1) := by decide +kernel
theorem d_Model_turtles_562 : decode b_Model_turtles 562 = .ok (.iaload, 1) := by decide +kernel
theorem d_Model_turtles_563 : decode b_Model_turtles 563 = .ok (.aload_n 0, 1) := by decide +kernel
theorem d_Model_turtles_564 : decode b_Model_turtles 564 = .ok (.getfield 210, 3) := by decide +kernel
theorem d_Model_turtles_567 : decode b_Model_turtles 567 = .ok (.iload_n 3, 1) := by decide +kernel
theorem d_Model_turtles_568 : decode b_Model_turtles 568 = .ok (.iaload, 1) := by decide +kernel
theorem d_Model_turtles_569 : decode b_Model_turtles 569 = .ok (.if_icmp .ne 7, 3) := by decide +kernel
theorem d_Model_turtles_572 : decode b_Model_turtles 572 = .ok (.iconst 1, 1) := by decide +kernel
theorem d_Model_turtles_573 : decode b_Model_turtles 573 = .ok (.goto 4, 3) := by decide +kernel
theorem d_Model_turtles_576 : decode b_Model_turtles 576 = .ok (.iconst 0, 1) := by decide +kernel
theorem d_Model_turtles_577 : decode b_Model_turtles 577 = .ok (.invokevirtual 721, 3) := by decide +kernel
theorem d_Model_turtles_580 : decode b_Model_turtles 580 = .ok (.lreturn, 1) := by decide +kernel
theorem lk_Model_813 : Cond.methodLink "TurtleWorldModel" 813 ⟨"TurtleWorldModel", "steps", "(II)J"⟩ ∈ tw_T := tw_i11 12 (by decide +kernel) (by decide +kernel)
theorem hd_Model_steps : y_Model_steps.cls ≠ "java/lang/invoke/MethodHandle" ∧ y_Model_steps.cls ≠ "java/lang/invoke/VarHandle" ∧ (parseMethodDescriptor y_Model_steps.desc).map (fun d => d.parameters.length) = some 2 := by decide +kernel
theorem in_Model_steps : Cond.instanceMethod ⟨"TurtleWorldModel", "steps", "(II)J"⟩ ∈ tw_T := tw_i11 14 (by decide +kernel) (by decide +kernel)
theorem sel_Model_steps : Cond.selects "TurtleWorldModel" ⟨"TurtleWorldModel", "steps", "(II)J"⟩ ⟨"TurtleWorldModel", "steps", "(II)J"⟩ ∈ tw_T := tw_inS 133 (by decide +kernel) (by decide +kernel)
theorem lk_Model_816 : Cond.methodLink "TurtleWorldModel" 816 ⟨"java/lang/Math", "floorMod", "(II)I"⟩ ∈ tw_T := tw_i11 48 (by decide +kernel) (by decide +kernel)
theorem d_Model_listed_0 : decode b_Model_listed 0 = .ok (.aload_n 0, 1) := by decide +kernel
theorem d_Model_listed_1 : decode b_Model_listed 1 = .ok (.getfield 32, 3) := by decide +kernel
theorem d_Model_listed_4 : decode b_Model_listed 4 = .ok (.iload_n 1, 1) := by decide +kernel
theorem d_Model_listed_5 : decode b_Model_listed 5 = .ok (.isub, 1) := by decide +kernel
theorem d_Model_listed_6 : decode b_Model_listed 6 = .ok (.istore_n 2, 1) := by decide +kernel
theorem d_Model_listed_7 : decode b_Model_listed 7 = .ok (.iconst 1, 1) := by decide +kernel
theorem d_Model_listed_8 : decode b_Model_listed 8 = .ok (.istore_n 3, 1) := by decide +kernel
theorem d_Model_listed_9 : decode b_Model_listed 9 = .ok (.iload_n 1, 1) := by decide +kernel
theorem d_Model_listed_10 : decode b_Model_listed 10 = .ok (.istore 4, 2) := by decide +kernel
theorem d_Model_listed_12 : decode b_Model_listed 12 = .ok (.iload 4, 2) := by decide +kernel
theorem d_Model_listed_14 : decode b_Model_listed 14 = .ok (.aload_n 0, 1) := by decide +kernel
theorem d_Model_listed_15 : decode b_Model_listed 15 = .ok (.getfield 32, 3) := by decide +kernel
theorem d_Model_listed_18 : decode b_Model_listed 18 = .ok (.if_icmp .ge 23, 3) := by decide +kernel
theorem d_Model_listed_21 : decode b_Model_listed 21 = .ok (.iload_n 3, 1) := by decide +kernel
theorem d_Model_listed_22 : decode b_Model_listed 22 = .ok (.aload_n 0, 1) := by decide +kernel
theorem d_Model_listed_23 : decode b_Model_listed 23 = .ok (.aload_n 0, 1) := by decide +kernel
theorem d_Model_listed_24 : decode b_Model_listed 24 = .ok (.getfield 35, 3) := by decide +kernel
theorem d_Model_listed_27 : decode b_Model_listed 27 = .ok (.iload 4, 2) := by decide +kernel
theorem d_Model_listed_29 : decode b_Model_listed 29 = .ok (.laload, 1) := by decide +kernel
theorem d_Model_listed_30 : decode b_Model_listed 30 = .ok (.invokevirtual 38, 3) := by decide +kernel
theorem d_Model_listed_33 : decode b_Model_listed 33 = .ok (.iadd, 1) := by decide +kernel
theorem d_Model_listed_34 : decode b_Model_listed 34 = .ok (.istore_n 3, 1) := by decide +kernel
theorem d_Model_listed_35 : decode b_Model_listed 35 = .ok (.iinc 4 1, 3) := by decide +kernel
theorem d_Model_listed_38 : decode b_Model_listed 38 = .ok (.goto (-26), 3) := by decide +kernel
theorem d_Model_listed_41 : decode b_Model_listed 41 = .ok (.iload_n 3, 1) := by decide +kernel
theorem d_Model_listed_42 : decode b_Model_listed 42 = .ok (.sipush 600, 3) := by decide +kernel
theorem d_Model_listed_45 : decode b_Model_listed 45 = .ok (.if_icmp .gt 13, 3) := by decide +kernel
theorem d_Model_listed_48 : decode b_Model_listed 48 = .ok (.aload_n 0, 1) := by decide +kernel
theorem d_Model_listed_49 : decode b_Model_listed 49 = .ok (.iload_n 2, 1) := by decide +kernel
theorem d_Model_listed_50 : decode b_Model_listed 50 = .ok (.iconst 1, 1) := by decide +kernel
theorem d_Model_listed_51 : decode b_Model_listed 51 = .ok (.iadd, 1) := by decide +kernel
theorem d_Model_listed_52 : decode b_Model_listed 52 = .ok (.invokevirtual 665, 3) := by decide +kernel
theorem d_Model_listed_55 : decode b_Model_listed 55 = .ok (.ifCond .ne 15, 3) := by decide +kernel
theorem d_Model_listed_58 : decode b_Model_listed 58 = .ok (.aload_n 0, 1) := by decide +kernel
theorem d_Model_listed_59 : decode b_Model_listed 59 = .ok (.iload_n 1, 1) := by decide +kernel
theorem d_Model_listed_60 : decode b_Model_listed 60 = .ok (.putfield 32, 3) := by decide +kernel
theorem d_Model_listed_63 : decode b_Model_listed 63 = .ok (.aload_n 0, 1) := by decide +kernel
theorem d_Model_listed_64 : decode b_Model_listed 64 = .ok (.bipush 8, 2) := by decide +kernel
theorem d_Model_listed_66 : decode b_Model_listed 66 = .ok (.invokevirtual 596, 3) := by decide +kernel
theorem d_Model_listed_69 : decode b_Model_listed 69 = .ok (.lreturn, 1) := by decide +kernel
theorem d_Model_listed_70 : decode b_Model_listed 70 = .ok (.aload_n 0, 1) := by decide +kernel
theorem d_Model_listed_71 : decode b_Model_listed 71 = .ok (.iload_n 2, 1) := by decide +kernel
theorem d_Model_listed_72 : decode b_Model_listed 72 = .ok (.invokevirtual 468, 3) := by decide +kernel
theorem d_Model_listed_75 : decode b_Model_listed 75 = .ok (.lreturn, 1) := by decide +kernel
theorem d_Model_defined_0 : decode b_Model_defined 0 = .ok (.aload_n 0, 1) := by decide +kernel
theorem d_Model_defined_1 : decode b_Model_defined 1 = .ok (.iload_n 1, 1) := by decide +kernel
theorem d_Model_defined_2 : decode b_Model_defined 2 = .ok (.invokevirtual 485, 3) := by decide +kernel
theorem d_Model_defined_5 : decode b_Model_defined 5 = .ok (.ifCond .eq 70, 3) := by decide +kernel
theorem d_Model_defined_8 : decode b_Model_defined 8 = .ok (.aload_n 0, 1) := by decide +kernel
theorem d_Model_defined_9 : decode b_Model_defined 9 = .ok (.lload_n 2, 1) := by decide +kernel
theorem d_Model_defined_10 : decode b_Model_defined 10 = .ok (.invokevirtual 98, 3) := by decide +kernel
theorem d_Model_defined_13 : decode b_Model_defined 13 = .ok (.iconst 2, 1) := by decide +kernel
theorem d_Model_defined_14 : decode b_Model_defined 14 = .ok (.if_icmp .ne 61, 3) := by decide +kernel
theorem d_Model_defined_17 : decode b_Model_defined 17 = .ok (.aload_n 0, 1) := by decide +kernel
theorem d_Model_defined_18 : decode b_Model_defined 18 = .ok (.lload_n 2, 1) := by decide +kernel
theorem d_Model_defined_19 : decode b_Model_defined 19 = .ok (.iconst 0, 1) := by decide +kernel
theorem d_Model_defined_20 : decode b_Model_defined 20 = .ok (.invokevirtual 101, 3) := by decide +kernel
theorem d_Model_defined_23 : decode b_Model_defined 23 = .ok (.invokestatic 95, 3) := by decide +kernel
theorem d_Model_defined_26 : decode b_Model_defined 26 = .ok (.ifCond .eq 49, 3) := by decide +kernel
theorem d_Model_defined_29 : decode b_Model_defined 29 = .ok (.aload_n 0, 1) := by decide +kernel
theorem d_Model_defined_30 : decode b_Model_defined 30 = .ok (.lload_n 2, 1) := by decide +kernel
theorem d_Model_defined_31 : decode b_Model_defined 31 = .ok (.iconst 1, 1) := by decide +kernel
theorem d_Model_defined_32 : decode b_Model_defined 32 = .ok (.invokevirtual 101, 3) := by decide +kernel
theorem d_Model_defined_35 : decode b_Model_defined 35 = .ok (.invokestatic 95, 3) := by decide +kernel
theorem d_Model_defined_38 : decode b_Model_defined 38 = .ok (.ifCond .eq 37, 3) := by decide +kernel
theorem d_Model_defined_41 : decode b_Model_defined 41 = .ok (.aload_n 0, 1) := by decide +kernel
theorem d_Model_defined_42 : decode b_Model_defined 42 = .ok (.aload_n 0, 1) := by decide +kernel
theorem d_Model_defined_43 : decode b_Model_defined 43 = .ok (.lload_n 2, 1) := by decide +kernel
theorem d_Model_defined_44 : decode b_Model_defined 44 = .ok (.iconst 0, 1) := by decide +kernel
theorem d_Model_defined_45 : decode b_Model_defined 45 = .ok (.invokevirtual 101, 3) := by decide +kernel
theorem d_Model_defined_48 : decode b_Model_defined 48 = .ok (.invokevirtual 98, 3) := by decide +kernel
theorem d_Model_defined_51 : decode b_Model_defined 51 = .ok (.iconst 5, 1) := by decide +kernel
theorem d_Model_defined_52 : decode b_Model_defined 52 = .ok (.if_icmp .gt 23, 3) := by decide +kernel
theorem d_Model_defined_55 : decode b_Model_defined 55 = .ok (.aload_n 0, 1) := by decide +kernel
theorem d_Model_defined_56 : decode b_Model_defined 56 = .ok (.aload_n 0, 1) := by decide +kernel
theorem d_Model_defined_57 : decode b_Model_defined 57 = .ok (.lload_n 2, 1) := by decide +kernel
theorem d_Model_defined_58 : decode b_Model_defined 58 = .ok (.iconst 1, 1) := by decide +kernel
theorem d_Model_defined_59 : decode b_Model_defined 59 = .ok (.invokevirtual 101, 3) := by decide +kernel
theorem d_Model_defined_62 : decode b_Model_defined 62 = .ok (.invokevirtual 38, 3) := by decide +kernel
theorem d_Model_defined_65 : decode b_Model_defined 65 = .ok (.sipush 600, 3) := by decide +kernel
theorem d_Model_defined_68 : decode b_Model_defined 68 = .ok (.if_icmp .gt 7, 3) := by decide +kernel
theorem d_Model_defined_71 : decode b_Model_defined 71 = .ok (.iconst 1, 1) := by decide +kernel
theorem d_Model_defined_72 : decode b_Model_defined 72 = .ok (.goto 4, 3) := by decide +kernel
theorem d_Model_defined_75 : decode b_Model_defined 75 = .ok (.iconst 0, 1) := by decide +kernel
theorem d_Model_defined_76 : decode b_Model_defined 76 = .ok (.istore 4, 2) := by decide +kernel
theorem d_Model_defined_78 : decode b_Model_defined 78 = .ok (.iload 4, 2) := by decide +kernel
theorem d_Model_defined_80 : decode b_Model_defined 80 = .ok (.ifCond .eq 12, 3) := by decide +kernel
theorem d_Model_defined_83 : decode b_Model_defined 83 = .ok (.aload_n 0, 1) := by decide +kernel
theorem d_Model_defined_84 : decode b_Model_defined 84 = .ok (.lload_n 2, 1) := by decide +kernel
theorem d_Model_defined_85 : decode b_Model_defined 85 = .ok (.iconst 0, 1) := by decide +kernel
theorem d_Model_defined_86 : decode b_Model_defined 86 = .ok (.invokevirtual 101, 3) := by decide +kernel
theorem d_Model_defined_89 : decode b_Model_defined 89 = .ok (.goto 4, 3) := by decide +kernel
theorem d_Model_defined_92 : decode b_Model_defined 92 = .ok (.lconst 0, 1) := by decide +kernel
theorem d_Model_defined_93 : decode b_Model_defined 93 = .ok (.lstore 5, 2) := by decide +kernel
theorem d_Model_defined_95 : decode b_Model_defined 95 = .ok (.iconst 0, 1) := by decide +kernel
theorem d_Model_defined_96 : decode b_Model_defined 96 = .ok (.istore 7, 2) := by decide +kernel
theorem d_Model_defined_98 : decode b_Model_defined 98 = .ok (.iload 4, 2) := by decide +kernel
theorem d_Model_defined_100 : decode b_Model_defined 100 = .ok (.ifCond .eq 90, 3) := by decide +kernel
theorem d_Model_defined_103 : decode b_Model_defined 103 = .ok (.iload 7, 2) := by decide +kernel
theorem d_Model_defined_105 : decode b_Model_defined 105 = .ok (.aload_n 0, 1) := by decide +kernel
theorem d_Model_defined_106 : decode b_Model_defined 106 = .ok (.lload 5, 2) := by decide +kernel
theorem d_Model_defined_108 : decode b_Model_defined 108 = .ok (.invokevirtual 98, 3) := by decide +kernel
theorem d_Model_defined_111 : decode b_Model_defined 111 = .ok (.if_icmp .ge 79, 3) := by decide +kernel
theorem d_Model_defined_114 : decode b_Model_defined 114 = .ok (.aload_n 0, 1) := by decide +kernel
theorem d_Model_defined_115 : decode b_Model_defined 115 = .ok (.lload 5, 2) := by decide +kernel
theorem d_Model_defined_117 : decode b_Model_defined 117 = .ok (.iload 7, 2) := by decide +kernel
theorem d_Model_defined_119 : decode b_Model_defined 119 = .ok (.invokevirtual 101, 3) := by decide +kernel
theorem d_Model_defined_122 : decode b_Model_defined 122 = .ok (.invokestatic 61, 3) := by decide +kernel
theorem d_Model_defined_125 : decode b_Model_defined 125 = .ok (.istore 4, 2) := by decide +kernel
theorem d_Model_defined_127 : decode b_Model_defined 127 = .ok (.iconst 0, 1) := by decide +kernel
theorem d_Model_defined_128 : decode b_Model_defined 128 = .ok (.istore 8, 2) := by decide +kernel
theorem d_Model_defined_130 : decode b_Model_defined 130 = .ok (.iload 4, 2) := by decide +kernel
theorem d_Model_defined_132 : decode b_Model_defined 132 = .ok (.ifCond .eq 52, 3) := by decide +kernel
theorem d_Model_defined_135 : decode b_Model_defined 135 = .ok (.iload 8, 2) := by decide +kernel
theorem d_Model_defined_137 : decode b_Model_defined 137 = .ok (.iload 7, 2) := by decide +kernel
theorem d_Model_defined_139 : decode b_Model_defined 139 = .ok (.if_icmp .ge 45, 3) := by decide +kernel
theorem d_Model_defined_142 : decode b_Model_defined 142 = .ok (.aload_n 0, 1) := by decide +kernel
theorem d_Model_defined_143 : decode b_Model_defined 143 = .ok (.aload_n 0, 1) := by decide +kernel
theorem d_Model_defined_144 : decode b_Model_defined 144 = .ok (.lload 5, 2) := by decide +kernel
theorem d_Model_defined_146 : decode b_Model_defined 146 = .ok (.iload 8, 2) := by decide +kernel
theorem d_Model_defined_148 : decode b_Model_defined 148 = .ok (.invokevirtual 101, 3) := by decide +kernel
theorem d_Model_defined_151 : decode b_Model_defined 151 = .ok (.invokestatic 64, 3) := by decide +kernel
theorem d_Model_defined_154 : decode b_Model_defined 154 = .ok (.aload_n 0, 1) := by decide +kernel
theorem d_Model_defined_155 : decode b_Model_defined 155 = .ok (.lload 5, 2) := by decide +kernel
theorem d_Model_defined_157 : decode b_Model_defined 157 = .ok (.iload 7, 2) := by decide +kernel
theorem d_Model_defined_159 : decode b_Model_defined 159 = .ok (.invokevirtual 101, 3) := by decide +kernel
theorem d_Model_defined_162 : decode b_Model_defined 162 = .ok (.invokestatic 64, 3) := by decide +kernel
theorem d_Model_defined_165 : decode b_Model_defined 165 = .ok (.invokevirtual 91, 3) := by decide +kernel
theorem d_Model_defined_168 : decode b_Model_defined 168 = .ok (.ifCond .ne 7, 3) := by decide +kernel
theorem d_Model_defined_171 : decode b_Model_defined 171 = .ok (.iconst 1, 1) := by decide +kernel
theorem d_Model_defined_172 : decode b_Model_defined 172 = .ok (.goto 4, 3) := by decide +kernel
theorem d_Model_defined_175 : decode b_Model_defined 175 = .ok (.iconst 0, 1) := by decide +kernel
theorem d_Model_defined_176 : decode b_Model_defined 176 = .ok (.istore 4, 2) := by decide +kernel
theorem d_Model_defined_178 : decode b_Model_defined 178 = .ok (.iinc 8 1, 3) := by decide +kernel
theorem d_Model_defined_181 : decode b_Model_defined 181 = .ok (.goto (-51), 3) := by decide +kernel
theorem d_Model_defined_184 : decode b_Model_defined 184 = .ok (.iinc 7 1, 3) := by decide +kernel
theorem d_Model_defined_187 : decode b_Model_defined 187 = .ok (.goto (-89), 3) := by decide +kernel
theorem d_Model_defined_190 : decode b_Model_defined 190 = .ok (.iload 4, 2) := by decide +kernel
theorem d_Model_defined_192 : decode b_Model_defined 192 = .ok (.ifCond .ne 9, 3) := by decide +kernel
theorem d_Model_defined_195 : decode b_Model_defined 195 = .ok (.aload_n 0, 1) := by decide +kernel
theorem d_Model_defined_196 : decode b_Model_defined 196 = .ok (.iconst 3, 1) := by decide +kernel
theorem d_Model_defined_197 : decode b_Model_defined 197 = .ok (.invokevirtual 596, 3) := by decide +kernel
theorem d_Model_defined_200 : decode b_Model_defined 200 = .ok (.lreturn, 1) := by decide +kernel
theorem d_Model_defined_201 : decode b_Model_defined 201 = .ok (.aload_n 0, 1) := by decide +kernel
theorem d_Model_defined_202 : decode b_Model_defined 202 = .ok (.iload_n 1, 1) := by decide +kernel
theorem d_Model_defined_203 : decode b_Model_defined 203 = .ok (.invokevirtual 488, 3) := by decide +kernel
theorem d_Model_defined_206 : decode b_Model_defined 206 = .ok (.iconst (-1), 1) := by decide +kernel
theorem d_Model_defined_207 : decode b_Model_defined 207 = .ok (.if_icmp .ne 19, 3) := by decide +kernel
theorem d_Model_defined_210 : decode b_Model_defined 210 = .ok (.aload_n 0, 1) := by decide +kernel
theorem d_Model_defined_211 : decode b_Model_defined 211 = .ok (.getfield 344, 3) := by decide +kernel
theorem d_Model_defined_214 : decode b_Model_defined 214 = .ok (.bipush 40, 2) := by decide +kernel
theorem d_Model_defined_216 : decode b_Model_defined 216 = .ok (.if_icmp .ne 10, 3) := by decide +kernel
theorem d_Model_defined_219 : decode b_Model_defined 219 = .ok (.aload_n 0, 1) := by decide +kernel
theorem d_Model_defined_220 : decode b_Model_defined 220 = .ok (.bipush 8, 2) := by decide +kernel
theorem d_Model_defined_222 : decode b_Model_defined 222 = .ok (.invokevirtual 596, 3) := by decide +kernel
theorem d_Model_defined_225 : decode b_Model_defined 225 = .ok (.lreturn, 1) := by decide +kernel
theorem d_Model_defined_226 : decode b_Model_defined 226 = .ok (.aload_n 0, 1) := by decide +kernel
theorem d_Model_defined_227 : decode b_Model_defined 227 = .ok (.iload_n 1, 1) := by decide +kernel
theorem d_Model_defined_228 : decode b_Model_defined 228 = .ok (.invokevirtual 501, 3) := by decide +kernel
theorem d_Model_defined_231 : decode b_Model_defined 231 = .ok (.istore 7, 2) := by decide +kernel
theorem d_Model_defined_233 : decode b_Model_defined 233 = .ok (.aload_n 0, 1) := by decide +kernel
theorem d_Model_defined_234 : decode b_Model_defined 234 = .ok (.getfield 186, 3) := by decide +kernel
theorem d_Model_defined_237 : decode b_Model_defined 237 = .ok (.iload 7, 2) := by decide +kernel
theorem d_Model_defined_239 : decode b_Model_defined 239 = .ok (.aload_n 0, 1) := by decide +kernel
theorem d_Model_defined_240 : decode b_Model_defined 240 = .ok (.lload 5, 2) := by decide +kernel
theorem d_Model_defined_242 : decode b_Model_defined 242 = .ok (.invokevirtual 98, 3) := by decide +kernel
theorem d_Model_defined_245 : decode b_Model_defined 245 = .ok (.iastore, 1) := by decide +kernel
theorem d_Model_defined_246 : decode b_Model_defined 246 = .ok (.iconst 0, 1) := by decide +kernel
theorem d_Model_defined_247 : decode b_Model_defined 247 = .ok (.istore 8, 2) := by decide +kernel
theorem d_Model_defined_249 : decode b_Model_defined 249 = .ok (.iload 8, 2) := by decide +kernel
theorem d_Model_defined_251 : decode b_Model_defined 251 = .ok (.aload_n 0, 1) := by decide +kernel
theorem d_Model_defined_252 : decode b_Model_defined 252 = .ok (.lload 5, 2) := by decide +kernel
theorem d_Model_defined_254 : decode b_Model_defined 254 = .ok (.invokevirtual 98, 3) := by decide +kernel
theorem d_Model_defined_257 : decode b_Model_defined 257 = .ok (.if_icmp .ge 32, 3) := by decide +kernel
theorem d_Model_defined_260 : decode b_Model_defined 260 = .ok (.aload_n 0, 1) := by decide +kernel
theorem d_Model_defined_261 : decode b_Model_defined 261 = .ok (.getfield 189, 3) := by decide +kernel
theorem d_Model_defined_264 : decode b_Model_defined 264 = .ok (.iconst 5, 1) := by decide +kernel
theorem d_Model_defined_265 : decode b_Model_defined 265 = .ok (.iload 7, 2) := by decide +kernel
theorem d_Model_defined_267 : decode b_Model_defined 267 = .ok (.imul, 1) := by decide +kernel
theorem d_Model_defined_268 : decode b_Model_defined 268 = .ok (.iload 8, 2) := by decide +kernel
theorem d_Model_defined_270 : decode b_Model_defined 270 = .ok (.iadd, 1) := by decide +kernel
theorem d_Model_defined_271 : decode b_Model_defined 271 = .ok (.aload_n 0, 1) := by decide +kernel
theorem d_Model_defined_272 : decode b_Model_defined 272 = .ok (.lload 5, 2) := by decide +kernel
theorem d_Model_defined_274 : decode b_Model_defined 274 = .ok (.iload 8, 2) := by decide +kernel
theorem d_Model_defined_276 : decode b_Model_defined 276 = .ok (.invokevirtual 101, 3) := by decide +kernel
theorem d_Model_defined_279 : decode b_Model_defined 279 = .ok (.invokestatic 64, 3) := by decide +kernel
theorem d_Model_defined_282 : decode b_Model_defined 282 = .ok (.iastore, 1) := by decide +kernel
theorem d_Model_defined_283 : decode b_Model_defined 283 = .ok (.iinc 8 1, 3) := by decide +kernel
theorem d_Model_defined_286 : decode b_Model_defined 286 = .ok (.goto (-37), 3) := by decide +kernel
theorem d_Model_defined_289 : decode b_Model_defined 289 = .ok (.aload_n 0, 1) := by decide +kernel
theorem d_Model_defined_290 : decode b_Model_defined 290 = .ok (.getfield 192, 3) := by decide +kernel
theorem d_Model_defined_293 : decode b_Model_defined 293 = .ok (.iload 7, 2) := by decide +kernel
theorem d_Model_defined_295 : decode b_Model_defined 295 = .ok (.aload_n 0, 1) := by decide +kernel
theorem d_Model_defined_296 : decode b_Model_defined 296 = .ok (.lload_n 2, 1) := by decide +kernel
theorem d_Model_defined_297 : decode b_Model_defined 297 = .ok (.iconst 1, 1) := by decide +kernel
theorem d_Model_defined_298 : decode b_Model_defined 298 = .ok (.invokevirtual 101, 3) := by decide +kernel
theorem d_Model_defined_301 : decode b_Model_defined 301 = .ok (.lastore, 1) := by decide +kernel
theorem d_Model_defined_302 : decode b_Model_defined 302 = .ok (.ldc2_w 7, 3) := by decide +kernel
theorem d_Model_defined_305 : decode b_Model_defined 305 = .ok (.lreturn, 1) := by decide +kernel
theorem lk_Model_501 : Cond.methodLink "TurtleWorldModel" 501 ⟨"TurtleWorldModel", "tell", "(I)I"⟩ ∈ tw_T := tw_i10 87 (by decide +kernel) (by decide +kernel)
theorem hd_Model_tell : y_Model_tell.cls ≠ "java/lang/invoke/MethodHandle" ∧ y_Model_tell.cls ≠ "java/lang/invoke/VarHandle" ∧ (parseMethodDescriptor y_Model_tell.desc).map (fun d => d.parameters.length) = some 1 := by decide +kernel
theorem in_Model_tell : Cond.instanceMethod ⟨"TurtleWorldModel", "tell", "(I)I"⟩ ∈ tw_T := tw_i10 89 (by decide +kernel) (by decide +kernel)
theorem sel_Model_tell : Cond.selects "TurtleWorldModel" ⟨"TurtleWorldModel", "tell", "(I)I"⟩ ⟨"TurtleWorldModel", "tell", "(I)I"⟩ ∈ tw_T := tw_inS 102 (by decide +kernel) (by decide +kernel)
def m_Model_within_b78 (n : Nat) (rc_5 : (Nat → Int32) → (Nat → Int64) → (Nat → Nat → Int32) → (Nat → Nat → Int64) → Int32 → Int32 → Int32 → Option ((Nat → Int32) × (Nat → Int64) × (Nat → Nat → Int32) × (Nat → Nat → Int64) × Int64)) (i : Nat → Int32) (j : Nat → Int64) (a : Nat → Nat → Int32) (b : Nat → Nat → Int64) (v2 : Int32) (v3 : Int32) (s0 : Int32) : Option ((Nat → Int32) × (Nat → Int64) × (Nat → Nat → Int32) × (Nat → Nat → Int64) × Int64) := ob1 (s0 + 1 : Int32) (fun x_1 => rc_5 i j a b v2 v3 x_1)
set_option maxHeartbeats 4000000 in
set_option maxRecDepth 100000 in
theorem lb_Model_within_78 (l : Launch) (dC : Nat → ClassId) (dI : Nat → Nat → Nat) (cI cJ cB : ClassId) (adK adV adA : Nat → Nat) (h : Nat) (v : Nat → Nat) (n : Nat) {p : Program} {e : Env} {s : State} {m : MethodId} {args : Array Value} {below : List Frame} {meth : Method} {c : Code} {A : Nat → Prop} (hx : p.tables.exec = Jvm.exec) (hb : c.code = b_Model_within) (hml : c.maxLocals = 6) (hown : s.vm.findClass R_Model = some m.cls) (hts : ∀ w ∈ w_Model_within, w.before args s = true) (hK : va_K (dC, dI) classes [(cI, .int), (cJ, .long), (cB, .byte)] s) (hE : tw_E adK adV adA A s s.heap) (hA : ∀ q : Nat, s.heap.size ≤ q → A q) (hr : meth.sig.returnType = (some .long)) (hlocks : meth.locks = false) {i2 : Nat → Int32} {j2 : Nat → Int64} {a2 : Nat → Nat → Int32} {b2 : Nat → Nat → Int64} {r2 : Int64} (rc_5 : (Nat → Int32) → (Nat → Int64) → (Nat → Nat → Int32) → (Nat → Nat → Int64) → Int32 → Int32 → Int32 → Option ((Nat → Int32) × (Nat → Int64) × (Nat → Nat → Int32) × (Nat → Nat → Int64) × Int64)) (Hrc_5 : ∀ (i : Nat → Int32) (j : Nat → Int64) (a : Nat → Nat → Int32) (b : Nat → Nat → Int64) (v2 : Int32) (v3 : Int32) (v4 : Int32), rc_5 i j a b v2 v3 v4 = some (i2, j2, a2, b2, r2) → ∀ (H : Heap) (locs : List Loc) (ls : Array Slot), va_P (dC, dI) classes (MW cI cJ cB h v i j a b) H → va_D A (MW cI cJ cB h v i j a b) → va_S A s.heap H locs → lv_has ls 6 [(0, .ref h), (2, .int v2), (3, .int v3), (4, .int v4)] → W p l e ({ frames := 4, cells := 0, slots := 0, locals := 87 } : Room) s m args below meth c H locs 0 0 (MQ below (va_Ql (xR r2) (yB dC dI cI cJ cB h v i2 j2 a2 b2 A) A) args s 0 0 A) (F0 m 5 ls [])) (i : Nat → Int32) (j : Nat → Int64) (a : Nat → Nat → Int32) (b : Nat → Nat → Int64) (v2 : Int32) (v3 : Int32) (s0 : Int32) (hm : m_Model_within_b78 n rc_5 i j a b v2 v3 s0 = some (i2, j2, a2, b2, r2)) : ∀ (H : Heap) (locs : List Loc) (ls : Array Slot), va_P (dC, dI) classes (MW cI cJ cB h v i j a b) H → va_D A (MW cI cJ cB h v i j a b) → va_S A s.heap H locs → lv_has ls 6 [(0, .ref h), (2, .int v2), (3, .int v3)] → W p l e ({ frames := 4, cells := 0, slots := 0, locals := 87 } : Room) s m args below meth c H locs 0 0 (MQ below (va_Ql (xR r2) (yB dC dI cI cJ cB h v i2 j2 a2 b2 A) A) args s 0 0 A) (F0 m 78 ls [.int s0]) := by
  have htt : ∀ w ∈ tw_T, w.before _ s = true := fun w h => hts w (List.mem_cons_of_mem _ h)
  intro H locs ls hP hD hS hl
  rw [m_Model_within_b78] at hm
  refine lv_istore (lv' := [(4, .int s0), (0, .ref h), (2, .int v2), (3, .int v3)]) hx hb d_Model_within_78 hl (by decide) rfl (fun ls hl => ?_)
  obtain ⟨x_1, ex_1⟩ : ∃ y9 : Int32, y9 = s0 + 1 := ⟨_, rfl⟩
  replace hm := ob1_at ex_1 hm
  refine lv_iinc (v := x_1) (lv' := [(4, .int x_1), (0, .ref h), (2, .int v2), (3, .int v3)]) hx hb d_Model_within_80 hl (k := 0) rfl (by rw [ex_1]; rfl) (by decide) rfl (fun ls hl => ?_)
  refine lv_goto (tgt := 5) hx hb d_Model_within_83 (by decide) ?_
  exact Hrc_5 _ _ _ _ _ _ _ hm _ _ _ hP hD hS (lv_sub hl [1, 2, 3, 0] rfl)
def m_Model_within_b55 (n : Nat) (rc_5 : (Nat → Int32) → (Nat → Int64) → (Nat → Nat → Int32) → (Nat → Nat → Int64) → Int32 → Int32 → Int32 → Option ((Nat → Int32) × (Nat → Int64) × (Nat → Nat → Int32) × (Nat → Nat → Int64) × Int64)) (i : Nat → Int32) (j : Nat → Int64) (a : Nat → Nat → Int32) (b : Nat → Nat → Int64) (v2 : Int32) (v3 : Int32) (v4 : Int32) (v5 : Int32) (s0 : Int64) : Option ((Nat → Int32) × (Nat → Int64) × (Nat → Nat → Int32) × (Nat → Nat → Int64) × Int64) := om (m_Model_put n i j a b s0) (fun i_2 j_3 a_4 b_5 r_6 => ob1 (v3 + 1 : Int32) (fun x_7 => if v5 = ((0 : Int32)) then m_Model_within_b78 n rc_5 i_2 j_3 a_4 b_5 v2 x_7 v4 else ck v4 601 (m_Model_within_b78 n rc_5 i_2 j_3 a_4 b_5 v2 x_7 (a_4 79 v4.toNatClampNeg))))
set_option maxHeartbeats 4000000 in
set_option maxRecDepth 100000 in
theorem lb_Model_within_55 (l : Launch) (dC : Nat → ClassId) (dI : Nat → Nat → Nat) (cI cJ cB : ClassId) (adK adV adA : Nat → Nat) (h : Nat) (v : Nat → Nat) (n : Nat) {p : Program} {e : Env} {s : State} {m : MethodId} {args : Array Value} {below : List Frame} {meth : Method} {c : Code} {A : Nat → Prop} (hx : p.tables.exec = Jvm.exec) (hb : c.code = b_Model_within) (hml : c.maxLocals = 6) (hown : s.vm.findClass R_Model = some m.cls) (hts : ∀ w ∈ w_Model_within, w.before args s = true) (hK : va_K (dC, dI) classes [(cI, .int), (cJ, .long), (cB, .byte)] s) (hE : tw_E adK adV adA A s s.heap) (hA : ∀ q : Nat, s.heap.size ≤ q → A q) (hr : meth.sig.returnType = (some .long)) (hlocks : meth.locks = false) {i2 : Nat → Int32} {j2 : Nat → Int64} {a2 : Nat → Nat → Int32} {b2 : Nat → Nat → Int64} {r2 : Int64} (rc_5 : (Nat → Int32) → (Nat → Int64) → (Nat → Nat → Int32) → (Nat → Nat → Int64) → Int32 → Int32 → Int32 → Option ((Nat → Int32) × (Nat → Int64) × (Nat → Nat → Int32) × (Nat → Nat → Int64) × Int64)) (Hrc_5 : ∀ (i : Nat → Int32) (j : Nat → Int64) (a : Nat → Nat → Int32) (b : Nat → Nat → Int64) (v2 : Int32) (v3 : Int32) (v4 : Int32), rc_5 i j a b v2 v3 v4 = some (i2, j2, a2, b2, r2) → ∀ (H : Heap) (locs : List Loc) (ls : Array Slot), va_P (dC, dI) classes (MW cI cJ cB h v i j a b) H → va_D A (MW cI cJ cB h v i j a b) → va_S A s.heap H locs → lv_has ls 6 [(0, .ref h), (2, .int v2), (3, .int v3), (4, .int v4)] → W p l e ({ frames := 4, cells := 0, slots := 0, locals := 87 } : Room) s m args below meth c H locs 0 0 (MQ below (va_Ql (xR r2) (yB dC dI cI cJ cB h v i2 j2 a2 b2 A) A) args s 0 0 A) (F0 m 5 ls [])) (i : Nat → Int32) (j : Nat → Int64) (a : Nat → Nat → Int32) (b : Nat → Nat → Int64) (v2 : Int32) (v3 : Int32) (v4 : Int32) (v5 : Int32) (s0 : Int64) (hm : m_Model_within_b55 n rc_5 i j a b v2 v3 v4 v5 s0 = some (i2, j2, a2, b2, r2)) : ∀ (H : Heap) (locs : List Loc) (ls : Array Slot), va_P (dC, dI) classes (MW cI cJ cB h v i j a b) H → va_D A (MW cI cJ cB h v i j a b) → va_S A s.heap H locs → lv_has ls 6 [(0, .ref h), (2, .int v2), (3, .int v3), (4, .int v4), (5, .int v5)] → W p l e ({ frames := 4, cells := 0, slots := 0, locals := 87 } : Room) s m args below meth c H locs 0 0 (MQ below (va_Ql (xR r2) (yB dC dI cI cJ cB h v i2 j2 a2 b2 A) A) args s 0 0 A) (F0 m 55 ls [.long s0, .ref h]) := by
  have htt : ∀ w ∈ tw_T, w.before _ s = true := fun w h => hts w (List.mem_cons_of_mem _ h)
  intro H locs ls hP hD hS hl
  rw [m_Model_within_b55] at hm
  obtain ⟨i_2, j_3, a_4, b_5, r_6, h_1, hm⟩ := om_some hm
  have hFc := x_free hD hS hA
  refine va_callv (va_runV (As := [.long s0]) (rest := []) ⟨hx, hb, hml, hown, hts⟩ (x_Model_put l dC dI cI cJ cB adK adV adA h v H.size n h_1) (cwV 1 hts (tw_GV tw_cons cw_Model_put lk_Model_465 in_Model_put sel_Model_put ini_Model) rfl rfl rfl ⟨rfl, hd_Model_put⟩ ⟨Nat.le_of_ble_eq_true rfl, Nat.le_of_ble_eq_true rfl⟩) (ypV hK hP hD hS hE hFc yo_12 rfl) rfl rfl hl.1 rfl (lv_room (Nat.le_of_ble_eq_true rfl)) d_Model_within_55 ⟨Nat.le_of_ble_eq_true rfl, Nat.le_of_ble_eq_true rfl⟩) hS (fun q _ h => hFc q h) hFc (fun u9 t9 H locs ht hvm e9 hB hz1 hk1 hS => ?_)
  obtain ⟨hP, hD⟩ := y_aft hB ht hFc
  clear hFc hk1 hz1 hvm hB ht
  obtain ⟨x_7, ex_7⟩ : ∃ y9 : Int32, y9 = v3 + 1 := ⟨_, rfl⟩
  replace hm := ob1_at ex_7 hm
  refine lv_iinc (v := x_7) (lv' := [(3, .int x_7), (0, .ref h), (2, .int v2), (4, .int v4), (5, .int v5)]) hx hb d_Model_within_58 hl (k := 2) rfl (by rw [ex_7]; rfl) (by decide) rfl (fun ls hl => ?_)
  refine lv_iload hx hb d_Model_within_61 (lv_at hl 4 rfl) ?_
  refine lv_if_eq (tgt := 76) hx hb d_Model_within_63 (by decide) (fun c_8 => ?_) (fun c_8 => ?_)
  · replace hm := if_t c_8 hm
    refine lv_iload hx hb d_Model_within_76 (lv_at hl 3 rfl) ?_
    exact lb_Model_within_78 l dC dI cI cJ cB adK adV adA h v n hx hb hml hown hts hK hE hA hr hlocks rc_5 Hrc_5 _ _ _ _ _ _ _ hm _ _ _ hP hD hS (lv_sub hl [1, 2, 0] rfl)
  · replace hm := if_f c_8 hm
    refine lv_aload_n hx hb d_Model_within_66 rfl (lv_at hl 1 rfl) ?_
    refine va_get (D := (dC, dI)) (ci := 12) (v := .ref ((v 79))) (C := R_Model) (T := F_Model) (N := 127) hx hb htt iw_Model hown hK hP 0 yo_12 rfl 79 (Nat.le_of_ble_eq_true rfl) (htt _ lk_Model_273) (fun _ h9 => h9) yg_79 d_Model_within_67 ?_
    refine lv_iload hx hb d_Model_within_70 (lv_at hl 3 rfl) ?_
    obtain ⟨h_9, hm⟩ := ck_some hm
    refine va_iald hx hb hK hP 52 0 ya_79 rfl h_9 d_Model_within_72 ?_
    refine lv_goto (tgt := 78) hx hb d_Model_within_73 (by decide) ?_
    exact lb_Model_within_78 l dC dI cI cJ cB adK adV adA h v n hx hb hml hown hts hK hE hA hr hlocks rc_5 Hrc_5 _ _ _ _ _ _ _ hm _ _ _ hP hD hS (lv_sub hl [1, 2, 0] rfl)
def m_Model_within_b30 (n : Nat) (rc_5 : (Nat → Int32) → (Nat → Int64) → (Nat → Nat → Int32) → (Nat → Nat → Int64) → Int32 → Int32 → Int32 → Option ((Nat → Int32) × (Nat → Int64) × (Nat → Nat → Int32) × (Nat → Nat → Int64) × Int64)) (i : Nat → Int32) (j : Nat → Int64) (a : Nat → Nat → Int32) (b : Nat → Nat → Int64) (v2 : Int32) (v3 : Int32) (v4 : Int32) (s0 : Int32) : Option ((Nat → Int32) × (Nat → Int64) × (Nat → Nat → Int32) × (Nat → Nat → Int64) × Int64) := if s0 = ((0 : Int32)) then ck v4 601 (m_Model_within_b55 n rc_5 i j a b v2 v3 v4 s0 (b 80 v4.toNatClampNeg)) else ck v4 601 (m_Model_within_b55 n rc_5 i j a b v2 v3 v4 s0 (b 83 v4.toNatClampNeg))
set_option maxHeartbeats 4000000 in
set_option maxRecDepth 100000 in
theorem lb_Model_within_30 (l : Launch) (dC : Nat → ClassId) (dI : Nat → Nat → Nat) (cI cJ cB : ClassId) (adK adV adA : Nat → Nat) (h : Nat) (v : Nat → Nat) (n : Nat) {p : Program} {e : Env} {s : State} {m : MethodId} {args : Array Value} {below : List Frame} {meth : Method} {c : Code} {A : Nat → Prop} (hx : p.tables.exec = Jvm.exec) (hb : c.code = b_Model_within) (hml : c.maxLocals = 6) (hown : s.vm.findClass R_Model = some m.cls) (hts : ∀ w ∈ w_Model_within, w.before args s = true) (hK : va_K (dC, dI) classes [(cI, .int), (cJ, .long), (cB, .byte)] s) (hE : tw_E adK adV adA A s s.heap) (hA : ∀ q : Nat, s.heap.size ≤ q → A q) (hr : meth.sig.returnType = (some .long)) (hlocks : meth.locks = false) {i2 : Nat → Int32} {j2 : Nat → Int64} {a2 : Nat → Nat → Int32} {b2 : Nat → Nat → Int64} {r2 : Int64} (rc_5 : (Nat → Int32) → (Nat → Int64) → (Nat → Nat → Int32) → (Nat → Nat → Int64) → Int32 → Int32 → Int32 → Option ((Nat → Int32) × (Nat → Int64) × (Nat → Nat → Int32) × (Nat → Nat → Int64) × Int64)) (Hrc_5 : ∀ (i : Nat → Int32) (j : Nat → Int64) (a : Nat → Nat → Int32) (b : Nat → Nat → Int64) (v2 : Int32) (v3 : Int32) (v4 : Int32), rc_5 i j a b v2 v3 v4 = some (i2, j2, a2, b2, r2) → ∀ (H : Heap) (locs : List Loc) (ls : Array Slot), va_P (dC, dI) classes (MW cI cJ cB h v i j a b) H → va_D A (MW cI cJ cB h v i j a b) → va_S A s.heap H locs → lv_has ls 6 [(0, .ref h), (2, .int v2), (3, .int v3), (4, .int v4)] → W p l e ({ frames := 4, cells := 0, slots := 0, locals := 87 } : Room) s m args below meth c H locs 0 0 (MQ below (va_Ql (xR r2) (yB dC dI cI cJ cB h v i2 j2 a2 b2 A) A) args s 0 0 A) (F0 m 5 ls [])) (i : Nat → Int32) (j : Nat → Int64) (a : Nat → Nat → Int32) (b : Nat → Nat → Int64) (v2 : Int32) (v3 : Int32) (v4 : Int32) (s0 : Int32) (hm : m_Model_within_b30 n rc_5 i j a b v2 v3 v4 s0 = some (i2, j2, a2, b2, r2)) : ∀ (H : Heap) (locs : List Loc) (ls : Array Slot), va_P (dC, dI) classes (MW cI cJ cB h v i j a b) H → va_D A (MW cI cJ cB h v i j a b) → va_S A s.heap H locs → lv_has ls 6 [(0, .ref h), (2, .int v2), (3, .int v3), (4, .int v4)] → W p l e ({ frames := 4, cells := 0, slots := 0, locals := 87 } : Room) s m args below meth c H locs 0 0 (MQ below (va_Ql (xR r2) (yB dC dI cI cJ cB h v i2 j2 a2 b2 A) A) args s 0 0 A) (F0 m 30 ls [.int s0]) := by
  have htt : ∀ w ∈ tw_T, w.before _ s = true := fun w h => hts w (List.mem_cons_of_mem _ h)
  intro H locs ls hP hD hS hl
  rw [m_Model_within_b30] at hm
  refine lv_istore (lv' := [(5, .int s0), (0, .ref h), (2, .int v2), (3, .int v3), (4, .int v4)]) hx hb d_Model_within_30 hl (by decide) rfl (fun ls hl => ?_)
  refine lv_aload_n hx hb d_Model_within_32 rfl (lv_at hl 1 rfl) ?_
  refine lv_iload hx hb d_Model_within_33 (lv_at hl 0 rfl) ?_
  refine lv_if_eq (tgt := 48) hx hb d_Model_within_35 (by decide) (fun c_1 => ?_) (fun c_1 => ?_)
  · replace hm := if_t c_1 hm
    refine lv_aload_n hx hb d_Model_within_48 rfl (lv_at hl 1 rfl) ?_
    refine va_get (D := (dC, dI)) (ci := 12) (v := .ref ((v 80))) (C := R_Model) (T := F_Model) (N := 127) hx hb htt iw_Model hown hK hP 0 yo_12 rfl 80 (Nat.le_of_ble_eq_true rfl) (htt _ lk_Model_276) (fun _ h9 => h9) yg_80 d_Model_within_49 ?_
    refine lv_iload hx hb d_Model_within_52 (lv_at hl 4 rfl) ?_
    obtain ⟨h_2, hm⟩ := ck_some hm
    refine va_lald hx hb hK hP 53 1 ya_80 rfl h_2 d_Model_within_54 ?_
    exact lb_Model_within_55 l dC dI cI cJ cB adK adV adA h v n hx hb hml hown hts hK hE hA hr hlocks rc_5 Hrc_5 _ _ _ _ _ _ _ _ _ hm _ _ _ hP hD hS (lv_sub hl [1, 2, 3, 4, 0] rfl)
  · replace hm := if_f c_1 hm
    refine lv_aload_n hx hb d_Model_within_38 rfl (lv_at hl 1 rfl) ?_
    refine va_get (D := (dC, dI)) (ci := 12) (v := .ref ((v 83))) (C := R_Model) (T := F_Model) (N := 127) hx hb htt iw_Model hown hK hP 0 yo_12 rfl 83 (Nat.le_of_ble_eq_true rfl) (htt _ lk_Model_282) (fun _ h9 => h9) yg_83 d_Model_within_39 ?_
    refine lv_iload hx hb d_Model_within_42 (lv_at hl 4 rfl) ?_
    obtain ⟨h_3, hm⟩ := ck_some hm
    refine va_lald hx hb hK hP 55 1 ya_83 rfl h_3 d_Model_within_44 ?_
    refine lv_goto (tgt := 55) hx hb d_Model_within_45 (by decide) ?_
    exact lb_Model_within_55 l dC dI cI cJ cB adK adV adA h v n hx hb hml hown hts hK hE hA hr hlocks rc_5 Hrc_5 _ _ _ _ _ _ _ _ _ hm _ _ _ hP hD hS (lv_sub hl [1, 2, 3, 4, 0] rfl)
def m_Model_within_b5 (n : Nat) : Nat → (Nat → Int32) → (Nat → Int64) → (Nat → Nat → Int32) → (Nat → Nat → Int64) → Int32 → Int32 → Int32 → Option ((Nat → Int32) × (Nat → Int64) × (Nat → Nat → Int32) × (Nat → Nat → Int64) × Int64)
  | 0, _, _, _, _, _, _, _ => none
  | f + 1, i, j, a, b, v2, v3, v4 => if v2 ≤ v4 then om (m_Model_newList n i j a b v3) (fun i_3 j_4 a_5 b_6 r_7 => some (i_3, j_4, a_5, b_6, r_7)) else ck v4 601 (if ((lg_cmp (b 80 v4.toNatClampNeg) 3)) = ((0 : Int32)) then m_Model_within_b30 n (m_Model_within_b5 n f) i j a b v2 v3 v4 (1 : Int32) else m_Model_within_b30 n (m_Model_within_b5 n f) i j a b v2 v3 v4 (0 : Int32))
set_option maxHeartbeats 4000000 in
set_option maxRecDepth 100000 in
theorem lb_Model_within_5 (l : Launch) (dC : Nat → ClassId) (dI : Nat → Nat → Nat) (cI cJ cB : ClassId) (adK adV adA : Nat → Nat) (h : Nat) (v : Nat → Nat) (n : Nat) {p : Program} {e : Env} {s : State} {m : MethodId} {args : Array Value} {below : List Frame} {meth : Method} {c : Code} {A : Nat → Prop} (hx : p.tables.exec = Jvm.exec) (hb : c.code = b_Model_within) (hml : c.maxLocals = 6) (hown : s.vm.findClass R_Model = some m.cls) (hts : ∀ w ∈ w_Model_within, w.before args s = true) (hK : va_K (dC, dI) classes [(cI, .int), (cJ, .long), (cB, .byte)] s) (hE : tw_E adK adV adA A s s.heap) (hA : ∀ q : Nat, s.heap.size ≤ q → A q) (hr : meth.sig.returnType = (some .long)) (hlocks : meth.locks = false) {i2 : Nat → Int32} {j2 : Nat → Int64} {a2 : Nat → Nat → Int32} {b2 : Nat → Nat → Int64} {r2 : Int64} : ∀ (f : Nat) (i : Nat → Int32) (j : Nat → Int64) (a : Nat → Nat → Int32) (b : Nat → Nat → Int64) (v2 : Int32) (v3 : Int32) (v4 : Int32), m_Model_within_b5 n f i j a b v2 v3 v4 = some (i2, j2, a2, b2, r2) → ∀ (H : Heap) (locs : List Loc) (ls : Array Slot), va_P (dC, dI) classes (MW cI cJ cB h v i j a b) H → va_D A (MW cI cJ cB h v i j a b) → va_S A s.heap H locs → lv_has ls 6 [(0, .ref h), (2, .int v2), (3, .int v3), (4, .int v4)] → W p l e ({ frames := 4, cells := 0, slots := 0, locals := 87 } : Room) s m args below meth c H locs 0 0 (MQ below (va_Ql (xR r2) (yB dC dI cI cJ cB h v i2 j2 a2 b2 A) A) args s 0 0 A) (F0 m 5 ls []) := by
  have htt : ∀ w ∈ tw_T, w.before _ s = true := fun w h => hts w (List.mem_cons_of_mem _ h)
  intro f
  induction f with
  | zero =>
    intro i j a b v2 v3 v4 hm
    rw [m_Model_within_b5] at hm
    cases hm
  | succ f ih =>
    intro i j a b v2 v3 v4 hm H locs ls hP hD hS hl
    rw [m_Model_within_b5] at hm
    refine lv_iload hx hb d_Model_within_5 (lv_at hl 3 rfl) ?_
    refine lv_iload_n hx hb d_Model_within_7 rfl (lv_at hl 1 rfl) ?_
    refine lv_icmp_ge (tgt := 86) hx hb d_Model_within_8 (by decide) (fun c_1 => ?_) (fun c_1 => ?_)
    · replace hm := if_t c_1 hm
      refine lv_aload_n hx hb d_Model_within_86 rfl (lv_at hl 0 rfl) ?_
      refine lv_iload_n hx hb d_Model_within_87 rfl (lv_at hl 2 rfl) ?_
      obtain ⟨i_3, j_4, a_5, b_6, r_7, h_2, hm⟩ := om_some hm
      have hFc := x_free hD hS hA
      refine va_calll (va_runV (As := [.int v3]) (rest := []) ⟨hx, hb, hml, hown, hts⟩ (x_Model_newList l dC dI cI cJ cB adK adV adA h v H.size n h_2) (cwV 1 hts (tw_GV tw_cons cw_Model_newList lk_Model_468 in_Model_newList sel_Model_newList ini_Model) rfl rfl rfl ⟨rfl, hd_Model_newList⟩ ⟨Nat.le_of_ble_eq_true rfl, Nat.le_of_ble_eq_true rfl⟩) (ypV hK hP hD hS hE hFc yo_12 rfl) rfl rfl hl.1 rfl (lv_room (Nat.le_of_ble_eq_true rfl)) d_Model_within_88 ⟨Nat.le_of_ble_eq_true rfl, Nat.le_of_ble_eq_true rfl⟩) hS (fun q _ h => hFc q h) hFc (fun r9 u9 t9 H locs ht hvm e9 hB hz1 hk1 hS => ?_)
      have e9 : r_7 = r9 := e9
      subst e9
      obtain ⟨hP, hD⟩ := y_aft hB ht hFc
      clear hFc hk1 hz1 hvm hB ht
      obtain ⟨e1i, e1j, e1a, e1b, e3⟩ := re4m hm
      obtain ⟨hP, hD⟩ := y_eq e1i e1j e1a e1b hP hD
      exact W.lret hx hb hr (fun t9 ht hW => ⟨⟨_, (), rfl, e3.symm, by rw [ht]; exact hP, hD⟩, hS.F ht⟩) hS.2.2 d_Model_within_91
    · replace hm := if_f c_1 hm
      refine lv_aload_n hx hb d_Model_within_11 rfl (lv_at hl 0 rfl) ?_
      refine va_get (D := (dC, dI)) (ci := 12) (v := .ref ((v 80))) (C := R_Model) (T := F_Model) (N := 127) hx hb htt iw_Model hown hK hP 0 yo_12 rfl 80 (Nat.le_of_ble_eq_true rfl) (htt _ lk_Model_276) (fun _ h9 => h9) yg_80 d_Model_within_12 ?_
      refine lv_iload hx hb d_Model_within_15 (lv_at hl 3 rfl) ?_
      obtain ⟨h_8, hm⟩ := ck_some hm
      refine va_lald hx hb hK hP 53 1 ya_80 rfl h_8 d_Model_within_17 ?_
      refine lv_ldc2 (v := 3) hx hb hown (htt _ lk_Model_7) d_Model_within_18 ?_
      refine W.lcmp hx hb d_Model_within_21 ?_
      refine lv_if_ne (tgt := 29) hx hb d_Model_within_22 (by decide) (fun c_9 => ?_) (fun c_9 => ?_)
      · replace hm := if_f c_9 hm
        refine lv_iconst (v := 0) hx hb d_Model_within_29 (by decide) ?_
        exact lb_Model_within_30 l dC dI cI cJ cB adK adV adA h v n hx hb hml hown hts hK hE hA hr hlocks (m_Model_within_b5 n f) ih _ _ _ _ _ _ _ _ hm _ _ _ hP hD hS (lv_sub hl [0, 1, 2, 3] rfl)
      · replace hm := if_t c_9 hm
        refine lv_iconst (v := 1) hx hb d_Model_within_25 (by decide) ?_
        refine lv_goto (tgt := 30) hx hb d_Model_within_26 (by decide) ?_
        exact lb_Model_within_30 l dC dI cI cJ cB adK adV adA h v n hx hb hml hown hts hK hE hA hr hlocks (m_Model_within_b5 n f) ih _ _ _ _ _ _ _ _ hm _ _ _ hP hD hS (lv_sub hl [0, 1, 2, 3] rfl)
def m_Model_within (n : Nat) (i : Nat → Int32) (j : Nat → Int64) (a : Nat → Nat → Int32) (b : Nat → Nat → Int64) (v1 : Int32) (v2 : Int32) : Option ((Nat → Int32) × (Nat → Int64) × (Nat → Nat → Int32) × (Nat → Nat → Int64) × Int64) := m_Model_within_b5 n n i j a b v2 (0 : Int32) v1
set_option maxHeartbeats 4000000 in
set_option maxRecDepth 100000 in
theorem x_Model_within (l : Launch) (dC : Nat → ClassId) (dI : Nat → Nat → Nat) (cI cJ cB : ClassId) (adK adV adA : Nat → Nat) (h : Nat) (v : Nat → Nat) (sz : Nat) (n : Nat) {i : Nat → Int32} {j : Nat → Int64} {a : Nat → Nat → Int32} {b : Nat → Nat → Int64} {v1 : Int32} {v2 : Int32} {i2 : Nat → Int32} {j2 : Nat → Int64} {a2 : Nat → Nat → Int32} {b2 : Nat → Nat → Int64} {r2 : Int64} (hm : m_Model_within n i j a b v1 v2 = some (i2, j2, a2, b2, r2)) : Met l y_Model_within w_Model_within ({ frames := 4, cells := 0, slots := 0, locals := 87 } : Room) (va_Pc [.ref h, .int v1, .int v2] (yE dC dI cI cJ cB adK adV adA h v i j a b sz)) (va_Ql (xR r2) (yB dC dI cI cJ cB h v i2 j2 a2 b2 (va_A (MW cI cJ cB h v i j a b) sz)) (va_A (MW cI cJ cB h v i j a b) sz)) 0 0 ((va_A (MW cI cJ cB h v i j a b) sz)) := by
  refine Met.ofW (cc := b_Model_within) (maxL := 6) (ret := (some .long)) (by decide) rfl ?_
  intro p e s m args below meth c s₁ B hml hv
  obtain ⟨rfl, hsz, hP, hK, hE, hD0⟩ := hv
  have hx := B.exec
  have hb := B.bytes
  have hr := B.returns
  have hts := atoms_spec (ws := w_Model_within) B.pre
  have htt : ∀ w ∈ tw_T, w.before _ s = true := fun w h => hts w (List.mem_cons_of_mem _ h)
  have hown : s.vm.findClass R_Model = some m.cls := findClass_of_methodNamed B.named
  have hlocks := B.notSynchronized
  subst hsz
  have hD := hD0.self (sz := s.heap.size)
  generalize hAe : (va_A (MW cI cJ cB h v i j a b) s.heap.size) = A at hD hE ⊢
  have hA : ∀ q : Nat, s.heap.size ≤ q → A q := fun q h => by rw [← hAe]; exact Or.inr h
  have hS : va_S A s.heap s.heap [] := va_S.rf
  have hl := lv_entry ([.ref h, .int v1, .int v2]) (n := 6) (Nat.le_of_ble_eq_true rfl)
  rw [lg_entry_eq]
  generalize (lg_sl ([.ref h, .int v1, .int v2]) ++ List.replicate (6 - (lg_sl ([.ref h, .int v1, .int v2])).length) Slot.unset).toArray = ls at hl ⊢
  have hl : lv_has ls 6 [(0, .ref h), (1, .int v1), (2, .int v2)] := hl
  rw [m_Model_within] at hm
  refine lv_iconst (v := 0) hx hb d_Model_within_0 (by decide) ?_
  refine lv_istore_n (lv' := [(3, .int 0), (0, .ref h), (1, .int v1), (2, .int v2)]) hx hb d_Model_within_1 rfl hl (by decide) rfl (fun ls hl => ?_)
  refine lv_iload_n hx hb d_Model_within_2 rfl (lv_at hl 2 rfl) ?_
  refine lv_istore (lv' := [(4, .int v1), (3, .int 0), (0, .ref h), (1, .int v1), (2, .int v2)]) hx hb d_Model_within_3 hl (by decide) rfl (fun ls hl => ?_)
  exact lb_Model_within_5 l dC dI cI cJ cB adK adV adA h v n hx hb hml hown hts hK hE hA hr hlocks n _ _ _ _ _ _ _ hm _ _ _ hP hD hS (lv_sub hl [2, 4, 1, 0] rfl)

def m_Model_turtles_b106 (n : Nat) (i : Nat → Int32) (j : Nat → Int64) (a : Nat → Nat → Int32) (b : Nat → Nat → Int64)  : Option ((Nat → Int32) × (Nat → Int64) × (Nat → Nat → Int32) × (Nat → Nat → Int64) × Int64) := om (m_Model_fails n i j a b (3 : Int32)) (fun i_2 j_3 a_4 b_5 r_6 => some (i_2, j_3, a_4, b_5, r_6))
set_option maxHeartbeats 4000000 in
set_option maxRecDepth 100000 in
theorem lb_Model_turtles_106 (l : Launch) (dC : Nat → ClassId) (dI : Nat → Nat → Nat) (cI cJ cB : ClassId) (adK adV adA : Nat → Nat) (h : Nat) (v : Nat → Nat) (n : Nat) {p : Program} {e : Env} {s : State} {m : MethodId} {args : Array Value} {below : List Frame} {meth : Method} {c : Code} {A : Nat → Prop} (hx : p.tables.exec = Jvm.exec) (hb : c.code = b_Model_turtles) (hml : c.maxLocals = 6) (hown : s.vm.findClass R_Model = some m.cls) (hts : ∀ w ∈ w_Model_turtles, w.before args s = true) (hK : va_K (dC, dI) classes [(cI, .int), (cJ, .long), (cB, .byte)] s) (hE : tw_E adK adV adA A s s.heap) (hA : ∀ q : Nat, s.heap.size ≤ q → A q) (hr : meth.sig.returnType = (some .long)) (hlocks : meth.locks = false) {i2 : Nat → Int32} {j2 : Nat → Int64} {a2 : Nat → Nat → Int32} {b2 : Nat → Nat → Int64} {r2 : Int64} (i : Nat → Int32) (j : Nat → Int64) (a : Nat → Nat → Int32) (b : Nat → Nat → Int64)  (hm : m_Model_turtles_b106 n i j a b = some (i2, j2, a2, b2, r2)) : ∀ (H : Heap) (locs : List Loc) (ls : Array Slot), va_P (dC, dI) classes (MW cI cJ cB h v i j a b) H → va_D A (MW cI cJ cB h v i j a b) → va_S A s.heap H locs → lv_has ls 6 [(0, .ref h)] → W p l e ({ frames := 4, cells := 0, slots := 0, locals := 131 } : Room) s m args below meth c H locs 0 0 (MQ below (va_Ql (xR r2) (yB dC dI cI cJ cB h v i2 j2 a2 b2 A) A) args s 0 0 A) (F0 m 106 ls []) := by
  have htt : ∀ w ∈ tw_T, w.before _ s = true := fun w h => hts w (List.mem_cons_of_mem _ h)
  intro H locs ls hP hD hS hl
  rw [m_Model_turtles_b106] at hm
  refine lv_aload_n hx hb d_Model_turtles_106 rfl (lv_at hl 0 rfl) ?_
  refine lv_iconst (v := 3) hx hb d_Model_turtles_107 (by decide) ?_
  obtain ⟨i_2, j_3, a_4, b_5, r_6, h_1, hm⟩ := om_some hm
  have hFc := x_free hD hS hA
  refine va_calll (va_runV (As := [.int 3]) (rest := []) ⟨hx, hb, hml, hown, hts⟩ (x_Model_fails l dC dI cI cJ cB adK adV adA h v H.size n h_1) (cwV 1 hts (tw_GV tw_cons cw_Model_fails lk_Model_596 in_Model_fails sel_Model_fails ini_Model) rfl rfl rfl ⟨rfl, hd_Model_fails⟩ ⟨Nat.le_of_ble_eq_true rfl, Nat.le_of_ble_eq_true rfl⟩) (ypV hK hP hD hS hE hFc yo_12 rfl) rfl rfl hl.1 rfl (lv_room (Nat.le_of_ble_eq_true rfl)) d_Model_turtles_108 ⟨Nat.le_of_ble_eq_true rfl, Nat.le_of_ble_eq_true rfl⟩) hS (fun q _ h => hFc q h) hFc (fun r9 u9 t9 H locs ht hvm e9 hB hz1 hk1 hS => ?_)
  have e9 : r_6 = r9 := e9
  subst e9
  obtain ⟨hP, hD⟩ := y_aft hB ht hFc
  clear hFc hk1 hz1 hvm hB ht
  refine lv_goto (tgt := 130) hx hb d_Model_turtles_111 (by decide) ?_
  obtain ⟨e1i, e1j, e1a, e1b, e3⟩ := re4m hm
  obtain ⟨hP, hD⟩ := y_eq e1i e1j e1a e1b hP hD
  exact W.lret hx hb hr (fun t9 ht hW => ⟨⟨_, (), rfl, e3.symm, by rw [ht]; exact hP, hD⟩, hS.F ht⟩) hS.2.2 d_Model_turtles_130
def m_Model_turtles_b194 (n : Nat) (i : Nat → Int32) (j : Nat → Int64) (a : Nat → Nat → Int32) (b : Nat → Nat → Int64) (s0 : Int32) (s1 : Int32) : Option ((Nat → Int32) × (Nat → Int64) × (Nat → Nat → Int32) × (Nat → Nat → Int64) × Int64) := ob0 (m_Math_floorMod n s0 (12 : Int32)) (fun r_2 => ck s1 8 (ob1 (sv a 41 s1.toNatClampNeg r_2 : Nat → Nat → Int32) (fun a_4 => some (i, j, a_4, b, 3))))
set_option maxHeartbeats 4000000 in
set_option maxRecDepth 100000 in
theorem lb_Model_turtles_194 (l : Launch) (dC : Nat → ClassId) (dI : Nat → Nat → Nat) (cI cJ cB : ClassId) (adK adV adA : Nat → Nat) (h : Nat) (v : Nat → Nat) (n : Nat) {p : Program} {e : Env} {s : State} {m : MethodId} {args : Array Value} {below : List Frame} {meth : Method} {c : Code} {A : Nat → Prop} (hx : p.tables.exec = Jvm.exec) (hb : c.code = b_Model_turtles) (hml : c.maxLocals = 6) (hown : s.vm.findClass R_Model = some m.cls) (hts : ∀ w ∈ w_Model_turtles, w.before args s = true) (hK : va_K (dC, dI) classes [(cI, .int), (cJ, .long), (cB, .byte)] s) (hE : tw_E adK adV adA A s s.heap) (hA : ∀ q : Nat, s.heap.size ≤ q → A q) (hr : meth.sig.returnType = (some .long)) (hlocks : meth.locks = false) {i2 : Nat → Int32} {j2 : Nat → Int64} {a2 : Nat → Nat → Int32} {b2 : Nat → Nat → Int64} {r2 : Int64} (i : Nat → Int32) (j : Nat → Int64) (a : Nat → Nat → Int32) (b : Nat → Nat → Int64) (s0 : Int32) (s1 : Int32) (hm : m_Model_turtles_b194 n i j a b s0 s1 = some (i2, j2, a2, b2, r2)) : ∀ (H : Heap) (locs : List Loc) (ls : Array Slot), va_P (dC, dI) classes (MW cI cJ cB h v i j a b) H → va_D A (MW cI cJ cB h v i j a b) → va_S A s.heap H locs → lv_has ls 6 [] → W p l e ({ frames := 4, cells := 0, slots := 0, locals := 131 } : Room) s m args below meth c H locs 0 0 (MQ below (va_Ql (xR r2) (yB dC dI cI cJ cB h v i2 j2 a2 b2 A) A) args s 0 0 A) (F0 m 194 ls [.int s0, .int s1, .ref ((v 41))]) := by
  have htt : ∀ w ∈ tw_T, w.before _ s = true := fun w h => hts w (List.mem_cons_of_mem _ h)
  intro H locs ls hP hD hS hl
  rw [m_Model_turtles_b194] at hm
  refine lv_bipush (v := 12) hx hb d_Model_turtles_194 (by decide) ?_
  obtain ⟨r_2, h_1, hm⟩ := ob0_some hm
  have hFc := x_free0 hS hA
  refine va_calli (va_runS (As := [.int s0, .int 12]) (rest := [.int s1, .ref ((v 41))]) ⟨hx, hb, hml, hown, hts⟩ (x_Math_floorMod l H.size n h_1) (va_cwS 2 hts (tw_GS tw_cons cw_Math_floorMod lk_Model_816 st_Math_floorMod ini_Math) rfl rfl rfl hd_Math_floorMod ⟨Nat.le_of_ble_eq_true rfl, Nat.le_of_ble_eq_true rfl⟩) xpS0 rfl rfl hl.1 rfl (lv_room (Nat.le_of_ble_eq_true rfl)) d_Model_turtles_196 ⟨Nat.le_of_ble_eq_true rfl, Nat.le_of_ble_eq_true rfl⟩) hS (fun q _ h => hFc q h) hFc (fun r9 u9 t9 H locs ht hvm e9 hB hz1 hk1 hS => ?_)
  have e9 : r_2 = r9 := e9
  subst e9
  replace hP := x_keep hP hk1
  clear hFc hk1 hz1 hvm hB ht
  obtain ⟨h_3, hm⟩ := ck_some hm
  refine va_iast hx hb hK hP hD hS 33 0 ya_41 rfl h_3 d_Model_turtles_199 (fun H locs hP hD hS => ?_)
  obtain ⟨a_4, ea_4⟩ : ∃ y9 : Nat → Nat → Int32, y9 = sv a 41 s1.toNatClampNeg r_2 := ⟨_, rfl⟩
  replace hm := ob1_at ea_4 hm
  obtain ⟨hP, hD⟩ := yv_41 ea_4 hP hD
  refine lv_ldc2 (v := 3) hx hb hown (htt _ lk_Model_7) d_Model_turtles_200 ?_
  obtain ⟨e1i, e1j, e1a, e1b, e3⟩ := re4m hm
  obtain ⟨hP, hD⟩ := y_eq e1i e1j e1a e1b hP hD
  exact W.lret hx hb hr (fun t9 ht hW => ⟨⟨_, (), rfl, e3.symm, by rw [ht]; exact hP, hD⟩, hS.F ht⟩) hS.2.2 d_Model_turtles_203
def m_Model_turtles_b331 (n : Nat) : Nat → (Nat → Int32) → (Nat → Int64) → (Nat → Nat → Int32) → (Nat → Nat → Int64) → Int32 → Option ((Nat → Int32) × (Nat → Int64) × (Nat → Nat → Int32) × (Nat → Nat → Int64) × Int64)
  | 0, _, _, _, _, _ => none
  | f + 1, i, j, a, b, v5 => if ((4096 : Int32)) ≤ v5 then some (i, j, a, b, 3) else ck v5 4096 (ob1 (sv a 44 v5.toNatClampNeg 0 : Nat → Nat → Int32) (fun a_3 => ob1 (v5 + 1 : Int32) (fun x_4 => m_Model_turtles_b331 n f i j a_3 b x_4)))
set_option maxHeartbeats 4000000 in
set_option maxRecDepth 100000 in
theorem lb_Model_turtles_331 (l : Launch) (dC : Nat → ClassId) (dI : Nat → Nat → Nat) (cI cJ cB : ClassId) (adK adV adA : Nat → Nat) (h : Nat) (v : Nat → Nat) (n : Nat) {p : Program} {e : Env} {s : State} {m : MethodId} {args : Array Value} {below : List Frame} {meth : Method} {c : Code} {A : Nat → Prop} (hx : p.tables.exec = Jvm.exec) (hb : c.code = b_Model_turtles) (hml : c.maxLocals = 6) (hown : s.vm.findClass R_Model = some m.cls) (hts : ∀ w ∈ w_Model_turtles, w.before args s = true) (hK : va_K (dC, dI) classes [(cI, .int), (cJ, .long), (cB, .byte)] s) (hE : tw_E adK adV adA A s s.heap) (hA : ∀ q : Nat, s.heap.size ≤ q → A q) (hr : meth.sig.returnType = (some .long)) (hlocks : meth.locks = false) {i2 : Nat → Int32} {j2 : Nat → Int64} {a2 : Nat → Nat → Int32} {b2 : Nat → Nat → Int64} {r2 : Int64} : ∀ (f : Nat) (i : Nat → Int32) (j : Nat → Int64) (a : Nat → Nat → Int32) (b : Nat → Nat → Int64) (v5 : Int32), m_Model_turtles_b331 n f i j a b v5 = some (i2, j2, a2, b2, r2) → ∀ (H : Heap) (locs : List Loc) (ls : Array Slot), va_P (dC, dI) classes (MW cI cJ cB h v i j a b) H → va_D A (MW cI cJ cB h v i j a b) → va_S A s.heap H locs → lv_has ls 6 [(0, .ref h), (5, .int v5)] → W p l e ({ frames := 4, cells := 0, slots := 0, locals := 131 } : Room) s m args below meth c H locs 0 0 (MQ below (va_Ql (xR r2) (yB dC dI cI cJ cB h v i2 j2 a2 b2 A) A) args s 0 0 A) (F0 m 331 ls []) := by
  have htt : ∀ w ∈ tw_T, w.before _ s = true := fun w h => hts w (List.mem_cons_of_mem _ h)
  intro f
  induction f with
  | zero =>
    intro i j a b v5 hm
    rw [m_Model_turtles_b331] at hm
    cases hm
  | succ f ih =>
    intro i j a b v5 hm H locs ls hP hD hS hl
    rw [m_Model_turtles_b331] at hm
    refine lv_iload hx hb d_Model_turtles_331 (lv_at hl 1 rfl) ?_
    refine lv_sipush (v := 4096) hx hb d_Model_turtles_333 (by decide) ?_
    refine lv_icmp_ge (tgt := 353) hx hb d_Model_turtles_336 (by decide) (fun c_1 => ?_) (fun c_1 => ?_)
    · replace hm := if_t c_1 hm
      refine lv_ldc2 (v := 3) hx hb hown (htt _ lk_Model_7) d_Model_turtles_353 ?_
      obtain ⟨e1i, e1j, e1a, e1b, e3⟩ := re4m hm
      obtain ⟨hP, hD⟩ := y_eq e1i e1j e1a e1b hP hD
      exact W.lret hx hb hr (fun t9 ht hW => ⟨⟨_, (), rfl, e3.symm, by rw [ht]; exact hP, hD⟩, hS.F ht⟩) hS.2.2 d_Model_turtles_356
    · replace hm := if_f c_1 hm
      refine lv_aload_n hx hb d_Model_turtles_339 rfl (lv_at hl 0 rfl) ?_
      refine va_get (D := (dC, dI)) (ci := 12) (v := .ref ((v 44))) (C := R_Model) (T := F_Model) (N := 127) hx hb htt iw_Model hown hK hP 0 yo_12 rfl 44 (Nat.le_of_ble_eq_true rfl) (htt _ lk_Model_222) (fun _ h9 => h9) yg_44 d_Model_turtles_340 ?_
      refine lv_iload hx hb d_Model_turtles_343 (lv_at hl 1 rfl) ?_
      refine lv_iconst (v := 0) hx hb d_Model_turtles_345 (by decide) ?_
      obtain ⟨h_2, hm⟩ := ck_some hm
      refine va_iast hx hb hK hP hD hS 36 0 ya_44 rfl h_2 d_Model_turtles_346 (fun H locs hP hD hS => ?_)
      obtain ⟨a_3, ea_3⟩ : ∃ y9 : Nat → Nat → Int32, y9 = sv a 44 v5.toNatClampNeg 0 := ⟨_, rfl⟩
      replace hm := ob1_at ea_3 hm
      obtain ⟨hP, hD⟩ := yv_44 ea_3 hP hD
      obtain ⟨x_4, ex_4⟩ : ∃ y9 : Int32, y9 = v5 + 1 := ⟨_, rfl⟩
      replace hm := ob1_at ex_4 hm
      refine lv_iinc (v := x_4) (lv' := [(5, .int x_4), (0, .ref h)]) hx hb d_Model_turtles_347 hl (k := 1) rfl (by rw [ex_4]; rfl) (by decide) rfl (fun ls hl => ?_)
      refine lv_goto (tgt := 331) hx hb d_Model_turtles_350 (by decide) ?_
      exact ih _ _ _ _ _ hm _ _ _ hP hD hS (lv_sub hl [1, 0] rfl)
def m_Model_turtles (n : Nat) (i : Nat → Int32) (j : Nat → Int64) (a : Nat → Nat → Int32) (b : Nat → Nat → Int64) (v1 : Int32) (v2 : Int32) (v3 : Int32) : Option ((Nat → Int32) × (Nat → Int64) × (Nat → Nat → Int32) × (Nat → Nat → Int64) × Int64) := ob1 (i 47 : Int32) (fun x_1 => if v1 = 0 then if v2 < ((-1000 : Int32)) then m_Model_turtles_b106 n i j a b else if v2 ≤ ((1000 : Int32)) then if v1 = ((0 : Int32)) then om (m_Model_steps n i j a b x_1 v2) (fun i_13 j_14 a_15 b_16 r_17 => some (i_13, j_14, a_15, b_16, r_17)) else om (m_Model_steps n i j a b x_1 (-v2)) (fun i_7 j_8 a_9 b_10 r_11 => some (i_7, j_8, a_9, b_10, r_11)) else m_Model_turtles_b106 n i j a b else if v1 = 1 then if v2 < ((-1000 : Int32)) then m_Model_turtles_b106 n i j a b else if v2 ≤ ((1000 : Int32)) then if v1 = ((0 : Int32)) then om (m_Model_steps n i j a b x_1 v2) (fun i_29 j_30 a_31 b_32 r_33 => some (i_29, j_30, a_31, b_32, r_33)) else om (m_Model_steps n i j a b x_1 (-v2)) (fun i_23 j_24 a_25 b_26 r_27 => some (i_23, j_24, a_25, b_26, r_27)) else m_Model_turtles_b106 n i j a b else if v1 = 2 then if ((v2 - v2 / 30 * 30)) = ((0 : Int32)) then if v1 = ((4 : Int32)) then m_Model_turtles_b194 n i j a b (v2 / 30) x_1 else if v1 = ((2 : Int32)) then ck x_1 8 (m_Model_turtles_b194 n i j a b ((a 41 x_1.toNatClampNeg) + (v2 / 30)) x_1) else ck x_1 8 (m_Model_turtles_b194 n i j a b ((a 41 x_1.toNatClampNeg) - (v2 / 30)) x_1) else om (m_Model_fails n i j a b (3 : Int32)) (fun i_41 j_42 a_43 b_44 r_45 => some (i_41, j_42, a_43, b_44, r_45)) else if v1 = 3 then if ((v2 - v2 / 30 * 30)) = ((0 : Int32)) then if v1 = ((4 : Int32)) then m_Model_turtles_b194 n i j a b (v2 / 30) x_1 else if v1 = ((2 : Int32)) then ck x_1 8 (m_Model_turtles_b194 n i j a b ((a 41 x_1.toNatClampNeg) + (v2 / 30)) x_1) else ck x_1 8 (m_Model_turtles_b194 n i j a b ((a 41 x_1.toNatClampNeg) - (v2 / 30)) x_1) else om (m_Model_fails n i j a b (3 : Int32)) (fun i_53 j_54 a_55 b_56 r_57 => some (i_53, j_54, a_55, b_56, r_57)) else if v1 = 4 then if ((v2 - v2 / 30 * 30)) = ((0 : Int32)) then if v1 = ((4 : Int32)) then m_Model_turtles_b194 n i j a b (v2 / 30) x_1 else if v1 = ((2 : Int32)) then ck x_1 8 (m_Model_turtles_b194 n i j a b ((a 41 x_1.toNatClampNeg) + (v2 / 30)) x_1) else ck x_1 8 (m_Model_turtles_b194 n i j a b ((a 41 x_1.toNatClampNeg) - (v2 / 30)) x_1) else om (m_Model_fails n i j a b (3 : Int32)) (fun i_65 j_66 a_67 b_68 r_69 => some (i_65, j_66, a_67, b_68, r_69)) else if v1 = 5 then if v1 = ((6 : Int32)) then ck x_1 8 (ob1 (sv a 43 x_1.toNatClampNeg 1 : Nat → Nat → Int32) (fun a_75 => some (i, j, a_75, b, 3))) else ck x_1 8 (ob1 (sv a 43 x_1.toNatClampNeg 0 : Nat → Nat → Int32) (fun a_73 => some (i, j, a_73, b, 3))) else if v1 = 6 then if v1 = ((6 : Int32)) then ck x_1 8 (ob1 (sv a 43 x_1.toNatClampNeg 1 : Nat → Nat → Int32) (fun a_81 => some (i, j, a_81, b, 3))) else ck x_1 8 (ob1 (sv a 43 x_1.toNatClampNeg 0 : Nat → Nat → Int32) (fun a_79 => some (i, j, a_79, b, 3))) else if v1 = 7 then if v2 < ((0 : Int32)) then om (m_Model_fails n i j a b (3 : Int32)) (fun i_85 j_86 a_87 b_88 r_89 => some (i_85, j_86, a_87, b_88, r_89)) else if v2 ≤ ((7 : Int32)) then ck x_1 8 (ob1 (sv a 42 x_1.toNatClampNeg v2 : Nat → Nat → Int32) (fun a_92 => some (i, j, a_92, b, 3))) else om (m_Model_fails n i j a b (3 : Int32)) (fun i_94 j_95 a_96 b_97 r_98 => some (i_94, j_95, a_96, b_97, r_98)) else if v1 = 8 then om (m_Model_set n i j a b x_1 (0 : Int32) (0 : Int32) (0 : Int32) (0 : Int32)) (fun i_101 j_102 a_103 b_104 r_105 => ck x_1 8 (ob1 (sv a_103 41 x_1.toNatClampNeg 0 : Nat → Nat → Int32) (fun a_107 => some (i_101, j_102, a_107, b_104, 3)))) else if v1 = 9 then if v2 < ((-30000 : Int32)) then om (m_Model_fails n i j a b (3 : Int32)) (fun i_111 j_112 a_113 b_114 r_115 => some (i_111, j_112, a_113, b_114, r_115)) else if ((30000 : Int32)) < v2 then om (m_Model_fails n i j a b (3 : Int32)) (fun i_118 j_119 a_120 b_121 r_122 => some (i_118, j_119, a_120, b_121, r_122)) else if v3 < ((-30000 : Int32)) then om (m_Model_fails n i j a b (3 : Int32)) (fun i_125 j_126 a_127 b_128 r_129 => some (i_125, j_126, a_127, b_128, r_129)) else if v3 ≤ ((30000 : Int32)) then om (m_Model_set n i j a b x_1 (2 * v2) (0 : Int32) (2 * v3) (0 : Int32)) (fun i_132 j_133 a_134 b_135 r_136 => some (i_132, j_133, a_134, b_135, 3)) else om (m_Model_fails n i j a b (3 : Int32)) (fun i_138 j_139 a_140 b_141 r_142 => some (i_138, j_139, a_140, b_141, r_142)) else if v1 = 10 then m_Model_turtles_b331 n n i j a b (0 : Int32) else if v1 = 11 then ob1 (upd i 47 v2 : Nat → Int32) (fun i_145 => some (i_145, j, a, b, 3)) else if v1 = 12 then ck x_1 8 (ob0 (m_Model_number n (30 * (a 41 x_1.toNatClampNeg))) (fun r_149 => some (i, j, a, b, r_149))) else if v1 = 13 then ck x_1 8 (ck x_1 8 (ob0 (m_Model_floor n ((a 37 x_1.toNatClampNeg).toInt64) ((a 38 x_1.toNatClampNeg).toInt64) (2 : Int64)) (fun r_154 => ob0 (m_Model_number n r_154) (fun r_156 => some (i, j, a, b, r_156))))) else if v1 = 14 then ck x_1 8 (ck x_1 8 (ob0 (m_Model_floor n ((a 39 x_1.toNatClampNeg).toInt64) ((a 40 x_1.toNatClampNeg).toInt64) (2 : Int64)) (fun r_161 => ob0 (m_Model_number n r_161) (fun r_163 => some (i, j, a, b, r_163))))) else if v1 = 15 then ck x_1 8 (ob0 (m_Model_number n (a 42 x_1.toNatClampNeg)) (fun r_167 => some (i, j, a, b, r_167))) else if v1 = 16 then ob0 (m_Model_number n (i 47)) (fun r_170 => some (i, j, a, b, r_170)) else if v1 = 17 then ck x_1 8 (ck x_1 8 (ob0 (m_Model_floor n (((a 37 x_1.toNatClampNeg) + 1).toInt64) ((a 38 x_1.toNatClampNeg).toInt64) (2 : Int64)) (fun r_175 => ck x_1 8 (ck x_1 8 (ob0 (m_Model_floor n (((a 39 x_1.toNatClampNeg) + 1).toInt64) ((a 40 x_1.toNatClampNeg).toInt64) (2 : Int64)) (fun r_179 => ob0 (m_Model_dotAt n i j a b r_175 r_179) (fun r_181 => ob0 (m_Math_max n (0 : Int32) r_181) (fun r_183 => ob0 (m_Model_number n r_183) (fun r_185 => some (i, j, a, b, r_185)))))))))) else ck v2 8 (ck v3 8 (if ((a 37 v2.toNatClampNeg)) = ((a 37 v3.toNatClampNeg)) then ck v2 8 (ck v3 8 (if ((a 38 v2.toNatClampNeg)) = ((a 38 v3.toNatClampNeg)) then ck v2 8 (ck v3 8 (if ((a 39 v2.toNatClampNeg)) = ((a 39 v3.toNatClampNeg)) then ck v2 8 (ck v3 8 (if ((a 40 v2.toNatClampNeg)) = ((a 40 v3.toNatClampNeg)) then ob0 (m_Model_truth n i j a b (1 : Int32)) (fun r_207 => some (i, j, a, b, r_207)) else ob0 (m_Model_truth n i j a b (0 : Int32)) (fun r_205 => some (i, j, a, b, r_205)))) else ob0 (m_Model_truth n i j a b (0 : Int32)) (fun r_200 => some (i, j, a, b, r_200)))) else ob0 (m_Model_truth n i j a b (0 : Int32)) (fun r_195 => some (i, j, a, b, r_195)))) else ob0 (m_Model_truth n i j a b (0 : Int32)) (fun r_190 => some (i, j, a, b, r_190)))))
set_option maxHeartbeats 4000000 in
set_option maxRecDepth 100000 in
theorem x_Model_turtles (l : Launch) (dC : Nat → ClassId) (dI : Nat → Nat → Nat) (cI cJ cB : ClassId) (adK adV adA : Nat → Nat) (h : Nat) (v : Nat → Nat) (sz : Nat) (n : Nat) {i : Nat → Int32} {j : Nat → Int64} {a : Nat → Nat → Int32} {b : Nat → Nat → Int64} {v1 : Int32} {v2 : Int32} {v3 : Int32} {i2 : Nat → Int32} {j2 : Nat → Int64} {a2 : Nat → Nat → Int32} {b2 : Nat → Nat → Int64} {r2 : Int64} (hm : m_Model_turtles n i j a b v1 v2 v3 = some (i2, j2, a2, b2, r2)) : Met l y_Model_turtles w_Model_turtles ({ frames := 4, cells := 0, slots := 0, locals := 131 } : Room) (va_Pc [.ref h, .int v1, .int v2, .int v3] (yE dC dI cI cJ cB adK adV adA h v i j a b sz)) (va_Ql (xR r2) (yB dC dI cI cJ cB h v i2 j2 a2 b2 (va_A (MW cI cJ cB h v i j a b) sz)) (va_A (MW cI cJ cB h v i j a b) sz)) 0 0 ((va_A (MW cI cJ cB h v i j a b) sz)) := by
  refine Met.ofW (cc := b_Model_turtles) (maxL := 6) (ret := (some .long)) (by decide) rfl ?_
  intro p e s m args below meth c s₁ B hml hv
  obtain ⟨rfl, hsz, hP, hK, hE, hD0⟩ := hv
  have hx := B.exec
  have hb := B.bytes
  have hr := B.returns
  have hts := atoms_spec (ws := w_Model_turtles) B.pre
  have htt : ∀ w ∈ tw_T, w.before _ s = true := fun w h => hts w (List.mem_cons_of_mem _ h)
  have hown : s.vm.findClass R_Model = some m.cls := findClass_of_methodNamed B.named
  have hlocks := B.notSynchronized
  subst hsz
  have hD := hD0.self (sz := s.heap.size)
  generalize hAe : (va_A (MW cI cJ cB h v i j a b) s.heap.size) = A at hD hE ⊢
  have hA : ∀ q : Nat, s.heap.size ≤ q → A q := fun q h => by rw [← hAe]; exact Or.inr h
  have hS : va_S A s.heap s.heap [] := va_S.rf
  have hl := lv_entry ([.ref h, .int v1, .int v2, .int v3]) (n := 6) (Nat.le_of_ble_eq_true rfl)
  rw [lg_entry_eq]
  generalize (lg_sl ([.ref h, .int v1, .int v2, .int v3]) ++ List.replicate (6 - (lg_sl ([.ref h, .int v1, .int v2, .int v3])).length) Slot.unset).toArray = ls at hl ⊢
  have hl : lv_has ls 6 [(0, .ref h), (1, .int v1), (2, .int v2), (3, .int v3)] := hl
  rw [m_Model_turtles] at hm
  refine lv_aload_n hx hb d_Model_turtles_0 rfl (lv_at hl 0 rfl) ?_
  refine va_get (D := (dC, dI)) (ci := 12) (v := .int (i 47)) (C := R_Model) (T := F_Model) (N := 127) hx hb htt iw_Model hown hK hP 0 yo_12 rfl 47 (Nat.le_of_ble_eq_true rfl) (htt _ lk_Model_366) (fun _ h9 => h9) yg_47 d_Model_turtles_1 ?_
  refine lv_topi (fun x_1 ex_1 => ?_)
  replace hm := ob1_at ex_1 hm
  refine lv_istore (lv' := [(4, .int x_1), (0, .ref h), (1, .int v1), (2, .int v2), (3, .int v3)]) hx hb d_Model_turtles_4 hl (by decide) rfl (fun ls hl => ?_)
  refine lv_iload_n hx hb d_Model_turtles_6 rfl (lv_at hl 2 rfl) ?_
  rcases Classical.em (v1 = 0) with c_2 | c_2
  · replace hm := if_t c_2 hm
    refine lv_tableIn (x := v1) (tgt := 92) hx hb d_Model_turtles_7 (by rw [c_2]; decide) (by rw [c_2]; decide) (by rw [c_2]; rfl) (by decide) ?_
    refine lv_iload_n hx hb d_Model_turtles_92 rfl (lv_at hl 3 rfl) ?_
    refine lv_sipush (v := -1000) hx hb d_Model_turtles_93 (by decide) ?_
    refine lv_icmp_lt (tgt := 106) hx hb d_Model_turtles_96 (by decide) (fun c_3 => ?_) (fun c_3 => ?_)
    · replace hm := if_t c_3 hm
      exact lb_Model_turtles_106 l dC dI cI cJ cB adK adV adA h v n hx hb hml hown hts hK hE hA hr hlocks _ _ _ _ hm _ _ _ hP hD hS (lv_sub hl [1] rfl)
    · replace hm := if_f c_3 hm
      refine lv_iload_n hx hb d_Model_turtles_99 rfl (lv_at hl 3 rfl) ?_
      refine lv_sipush (v := 1000) hx hb d_Model_turtles_100 (by decide) ?_
      refine lv_icmp_le (tgt := 114) hx hb d_Model_turtles_103 (by decide) (fun c_4 => ?_) (fun c_4 => ?_)
      · replace hm := if_t c_4 hm
        refine lv_aload_n hx hb d_Model_turtles_114 rfl (lv_at hl 1 rfl) ?_
        refine lv_iload hx hb d_Model_turtles_115 (lv_at hl 0 rfl) ?_
        refine lv_iload_n hx hb d_Model_turtles_117 rfl (lv_at hl 2 rfl) ?_
        refine lv_if_ne (tgt := 125) hx hb d_Model_turtles_118 (by decide) (fun c_5 => ?_) (fun c_5 => ?_)
        · replace hm := if_f c_5 hm
          refine lv_iload_n hx hb d_Model_turtles_125 rfl (lv_at hl 3 rfl) ?_
          refine lv_ineg hx hb d_Model_turtles_126 ?_
          obtain ⟨i_7, j_8, a_9, b_10, r_11, h_6, hm⟩ := om_some hm
          have hFc := x_free hD hS hA
          refine va_calll (va_runV (As := [.int x_1, .int (-v2)]) (rest := []) ⟨hx, hb, hml, hown, hts⟩ (x_Model_steps l dC dI cI cJ cB adK adV adA h v s.heap.size n h_6) (cwV 2 hts (tw_GV tw_cons cw_Model_steps lk_Model_813 in_Model_steps sel_Model_steps ini_Model) rfl rfl rfl ⟨rfl, hd_Model_steps⟩ ⟨Nat.le_of_ble_eq_true rfl, Nat.le_of_ble_eq_true rfl⟩) (ypV hK hP hD hS hE hFc yo_12 rfl) rfl rfl hl.1 rfl (lv_room (Nat.le_of_ble_eq_true rfl)) d_Model_turtles_127 ⟨Nat.le_of_ble_eq_true rfl, Nat.le_of_ble_eq_true rfl⟩) hS (fun q _ h => hFc q h) hFc (fun r9 u9 t9 H locs ht hvm e9 hB hz1 hk1 hS => ?_)
          have e9 : r_11 = r9 := e9
          subst e9
          obtain ⟨hP, hD⟩ := y_aft hB ht hFc
          clear hFc hk1 hz1 hvm hB ht
          obtain ⟨e1i, e1j, e1a, e1b, e3⟩ := re4m hm
          obtain ⟨hP, hD⟩ := y_eq e1i e1j e1a e1b hP hD
          exact W.lret hx hb hr (fun t9 ht hW => ⟨⟨_, (), rfl, e3.symm, by rw [ht]; exact hP, hD⟩, hS.F ht⟩) hS.2.2 d_Model_turtles_130
        · replace hm := if_t c_5 hm
          refine lv_iload_n hx hb d_Model_turtles_121 rfl (lv_at hl 3 rfl) ?_
          refine lv_goto (tgt := 127) hx hb d_Model_turtles_122 (by decide) ?_
          obtain ⟨i_13, j_14, a_15, b_16, r_17, h_12, hm⟩ := om_some hm
          have hFc := x_free hD hS hA
          refine va_calll (va_runV (As := [.int x_1, .int v2]) (rest := []) ⟨hx, hb, hml, hown, hts⟩ (x_Model_steps l dC dI cI cJ cB adK adV adA h v s.heap.size n h_12) (cwV 2 hts (tw_GV tw_cons cw_Model_steps lk_Model_813 in_Model_steps sel_Model_steps ini_Model) rfl rfl rfl ⟨rfl, hd_Model_steps⟩ ⟨Nat.le_of_ble_eq_true rfl, Nat.le_of_ble_eq_true rfl⟩) (ypV hK hP hD hS hE hFc yo_12 rfl) rfl rfl hl.1 rfl (lv_room (Nat.le_of_ble_eq_true rfl)) d_Model_turtles_127 ⟨Nat.le_of_ble_eq_true rfl, Nat.le_of_ble_eq_true rfl⟩) hS (fun q _ h => hFc q h) hFc (fun r9 u9 t9 H locs ht hvm e9 hB hz1 hk1 hS => ?_)
          have e9 : r_17 = r9 := e9
          subst e9
          obtain ⟨hP, hD⟩ := y_aft hB ht hFc
          clear hFc hk1 hz1 hvm hB ht
          obtain ⟨e1i, e1j, e1a, e1b, e3⟩ := re4m hm
          obtain ⟨hP, hD⟩ := y_eq e1i e1j e1a e1b hP hD
          exact W.lret hx hb hr (fun t9 ht hW => ⟨⟨_, (), rfl, e3.symm, by rw [ht]; exact hP, hD⟩, hS.F ht⟩) hS.2.2 d_Model_turtles_130
      · replace hm := if_f c_4 hm
        exact lb_Model_turtles_106 l dC dI cI cJ cB adK adV adA h v n hx hb hml hown hts hK hE hA hr hlocks _ _ _ _ hm _ _ _ hP hD hS (lv_sub hl [1] rfl)
  replace hm := if_f c_2 hm
  rcases Classical.em (v1 = 1) with c_18 | c_18
  · replace hm := if_t c_18 hm
    refine lv_tableIn (x := v1) (tgt := 92) hx hb d_Model_turtles_7 (by rw [c_18]; decide) (by rw [c_18]; decide) (by rw [c_18]; rfl) (by decide) ?_
    refine lv_iload_n hx hb d_Model_turtles_92 rfl (lv_at hl 3 rfl) ?_
    refine lv_sipush (v := -1000) hx hb d_Model_turtles_93 (by decide) ?_
    refine lv_icmp_lt (tgt := 106) hx hb d_Model_turtles_96 (by decide) (fun c_19 => ?_) (fun c_19 => ?_)
    · replace hm := if_t c_19 hm
      exact lb_Model_turtles_106 l dC dI cI cJ cB adK adV adA h v n hx hb hml hown hts hK hE hA hr hlocks _ _ _ _ hm _ _ _ hP hD hS (lv_sub hl [1] rfl)
    · replace hm := if_f c_19 hm
      refine lv_iload_n hx hb d_Model_turtles_99 rfl (lv_at hl 3 rfl) ?_
      refine lv_sipush (v := 1000) hx hb d_Model_turtles_100 (by decide) ?_
      refine lv_icmp_le (tgt := 114) hx hb d_Model_turtles_103 (by decide) (fun c_20 => ?_) (fun c_20 => ?_)
      · replace hm := if_t c_20 hm
        refine lv_aload_n hx hb d_Model_turtles_114 rfl (lv_at hl 1 rfl) ?_
        refine lv_iload hx hb d_Model_turtles_115 (lv_at hl 0 rfl) ?_
        refine lv_iload_n hx hb d_Model_turtles_117 rfl (lv_at hl 2 rfl) ?_
        refine lv_if_ne (tgt := 125) hx hb d_Model_turtles_118 (by decide) (fun c_21 => ?_) (fun c_21 => ?_)
        · replace hm := if_f c_21 hm
          refine lv_iload_n hx hb d_Model_turtles_125 rfl (lv_at hl 3 rfl) ?_
          refine lv_ineg hx hb d_Model_turtles_126 ?_
          obtain ⟨i_23, j_24, a_25, b_26, r_27, h_22, hm⟩ := om_some hm
          have hFc := x_free hD hS hA
          refine va_calll (va_runV (As := [.int x_1, .int (-v2)]) (rest := []) ⟨hx, hb, hml, hown, hts⟩ (x_Model_steps l dC dI cI cJ cB adK adV adA h v s.heap.size n h_22) (cwV 2 hts (tw_GV tw_cons cw_Model_steps lk_Model_813 in_Model_steps sel_Model_steps ini_Model) rfl rfl rfl ⟨rfl, hd_Model_steps⟩ ⟨Nat.le_of_ble_eq_true rfl, Nat.le_of_ble_eq_true rfl⟩) (ypV hK hP hD hS hE hFc yo_12 rfl) rfl rfl hl.1 rfl (lv_room (Nat.le_of_ble_eq_true rfl)) d_Model_turtles_127 ⟨Nat.le_of_ble_eq_true rfl, Nat.le_of_ble_eq_true rfl⟩) hS (fun q _ h => hFc q h) hFc (fun r9 u9 t9 H locs ht hvm e9 hB hz1 hk1 hS => ?_)
          have e9 : r_27 = r9 := e9
          subst e9
          obtain ⟨hP, hD⟩ := y_aft hB ht hFc
          clear hFc hk1 hz1 hvm hB ht
          obtain ⟨e1i, e1j, e1a, e1b, e3⟩ := re4m hm
          obtain ⟨hP, hD⟩ := y_eq e1i e1j e1a e1b hP hD
          exact W.lret hx hb hr (fun t9 ht hW => ⟨⟨_, (), rfl, e3.symm, by rw [ht]; exact hP, hD⟩, hS.F ht⟩) hS.2.2 d_Model_turtles_130
        · replace hm := if_t c_21 hm
          refine lv_iload_n hx hb d_Model_turtles_121 rfl (lv_at hl 3 rfl) ?_
          refine lv_goto (tgt := 127) hx hb d_Model_turtles_122 (by decide) ?_
          obtain ⟨i_29, j_30, a_31, b_32, r_33, h_28, hm⟩ := om_some hm
          have hFc := x_free hD hS hA
          refine va_calll (va_runV (As := [.int x_1, .int v2]) (rest := []) ⟨hx, hb, hml, hown, hts⟩ (x_Model_steps l dC dI cI cJ cB adK adV adA h v s.heap.size n h_28) (cwV 2 hts (tw_GV tw_cons cw_Model_steps lk_Model_813 in_Model_steps sel_Model_steps ini_Model) rfl rfl rfl ⟨rfl, hd_Model_steps⟩ ⟨Nat.le_of_ble_eq_true rfl, Nat.le_of_ble_eq_true rfl⟩) (ypV hK hP hD hS hE hFc yo_12 rfl) rfl rfl hl.1 rfl (lv_room (Nat.le_of_ble_eq_true rfl)) d_Model_turtles_127 ⟨Nat.le_of_ble_eq_true rfl, Nat.le_of_ble_eq_true rfl⟩) hS (fun q _ h => hFc q h) hFc (fun r9 u9 t9 H locs ht hvm e9 hB hz1 hk1 hS => ?_)
          have e9 : r_33 = r9 := e9
          subst e9
          obtain ⟨hP, hD⟩ := y_aft hB ht hFc
          clear hFc hk1 hz1 hvm hB ht
          obtain ⟨e1i, e1j, e1a, e1b, e3⟩ := re4m hm
          obtain ⟨hP, hD⟩ := y_eq e1i e1j e1a e1b hP hD
          exact W.lret hx hb hr (fun t9 ht hW => ⟨⟨_, (), rfl, e3.symm, by rw [ht]; exact hP, hD⟩, hS.F ht⟩) hS.2.2 d_Model_turtles_130
      · replace hm := if_f c_20 hm
        exact lb_Model_turtles_106 l dC dI cI cJ cB adK adV adA h v n hx hb hml hown hts hK hE hA hr hlocks _ _ _ _ hm _ _ _ hP hD hS (lv_sub hl [1] rfl)
  replace hm := if_f c_18 hm
  rcases Classical.em (v1 = 2) with c_34 | c_34
  · replace hm := if_t c_34 hm
    refine lv_tableIn (x := v1) (tgt := 131) hx hb d_Model_turtles_7 (by rw [c_34]; decide) (by rw [c_34]; decide) (by rw [c_34]; rfl) (by decide) ?_
    refine lv_iload_n hx hb d_Model_turtles_131 rfl (lv_at hl 3 rfl) ?_
    refine lv_bipush (v := 30) hx hb d_Model_turtles_132 (by decide) ?_
    refine lv_irem hx hb d_Model_turtles_134 (by decide) ?_
    refine lv_if_eq (tgt := 144) hx hb d_Model_turtles_135 (by decide) (fun c_35 => ?_) (fun c_35 => ?_)
    · replace hm := if_t c_35 hm
      refine lv_aload_n hx hb d_Model_turtles_144 rfl (lv_at hl 1 rfl) ?_
      refine va_get (D := (dC, dI)) (ci := 12) (v := .ref ((v 41))) (C := R_Model) (T := F_Model) (N := 127) hx hb htt iw_Model hown hK hP 0 yo_12 rfl 41 (Nat.le_of_ble_eq_true rfl) (htt _ lk_Model_213) (fun _ h9 => h9) yg_41 d_Model_turtles_145 ?_
      refine lv_iload hx hb d_Model_turtles_148 (lv_at hl 0 rfl) ?_
      refine lv_iload_n hx hb d_Model_turtles_150 rfl (lv_at hl 2 rfl) ?_
      refine lv_iconst (v := 4) hx hb d_Model_turtles_151 (by decide) ?_
      refine lv_icmp_ne (tgt := 162) hx hb d_Model_turtles_152 (by decide) (fun c_36 => ?_) (fun c_36 => ?_)
      · replace hm := if_f c_36 hm
        refine lv_iload_n hx hb d_Model_turtles_162 rfl (lv_at hl 2 rfl) ?_
        refine lv_iconst (v := 2) hx hb d_Model_turtles_163 (by decide) ?_
        refine lv_icmp_ne (tgt := 182) hx hb d_Model_turtles_164 (by decide) (fun c_37 => ?_) (fun c_37 => ?_)
        · replace hm := if_f c_37 hm
          refine lv_aload_n hx hb d_Model_turtles_182 rfl (lv_at hl 1 rfl) ?_
          refine va_get (D := (dC, dI)) (ci := 12) (v := .ref ((v 41))) (C := R_Model) (T := F_Model) (N := 127) hx hb htt iw_Model hown hK hP 0 yo_12 rfl 41 (Nat.le_of_ble_eq_true rfl) (htt _ lk_Model_213) (fun _ h9 => h9) yg_41 d_Model_turtles_183 ?_
          refine lv_iload hx hb d_Model_turtles_186 (lv_at hl 0 rfl) ?_
          obtain ⟨h_38, hm⟩ := ck_some hm
          refine va_iald hx hb hK hP 33 0 ya_41 rfl h_38 d_Model_turtles_188 ?_
          refine lv_iload_n hx hb d_Model_turtles_189 rfl (lv_at hl 3 rfl) ?_
          refine lv_bipush (v := 30) hx hb d_Model_turtles_190 (by decide) ?_
          refine lv_idiv hx hb d_Model_turtles_192 (by decide) ?_
          refine lv_isub hx hb d_Model_turtles_193 ?_
          exact lb_Model_turtles_194 l dC dI cI cJ cB adK adV adA h v n hx hb hml hown hts hK hE hA hr hlocks _ _ _ _ _ _ hm _ _ _ hP hD hS (lv_sub hl [] rfl)
        · replace hm := if_t c_37 hm
          refine lv_aload_n hx hb d_Model_turtles_167 rfl (lv_at hl 1 rfl) ?_
          refine va_get (D := (dC, dI)) (ci := 12) (v := .ref ((v 41))) (C := R_Model) (T := F_Model) (N := 127) hx hb htt iw_Model hown hK hP 0 yo_12 rfl 41 (Nat.le_of_ble_eq_true rfl) (htt _ lk_Model_213) (fun _ h9 => h9) yg_41 d_Model_turtles_168 ?_
          refine lv_iload hx hb d_Model_turtles_171 (lv_at hl 0 rfl) ?_
          obtain ⟨h_39, hm⟩ := ck_some hm
          refine va_iald hx hb hK hP 33 0 ya_41 rfl h_39 d_Model_turtles_173 ?_
          refine lv_iload_n hx hb d_Model_turtles_174 rfl (lv_at hl 3 rfl) ?_
          refine lv_bipush (v := 30) hx hb d_Model_turtles_175 (by decide) ?_
          refine lv_idiv hx hb d_Model_turtles_177 (by decide) ?_
          refine lv_iadd hx hb d_Model_turtles_178 ?_
          refine lv_goto (tgt := 194) hx hb d_Model_turtles_179 (by decide) ?_
          exact lb_Model_turtles_194 l dC dI cI cJ cB adK adV adA h v n hx hb hml hown hts hK hE hA hr hlocks _ _ _ _ _ _ hm _ _ _ hP hD hS (lv_sub hl [] rfl)
      · replace hm := if_t c_36 hm
        refine lv_iload_n hx hb d_Model_turtles_155 rfl (lv_at hl 3 rfl) ?_
        refine lv_bipush (v := 30) hx hb d_Model_turtles_156 (by decide) ?_
        refine lv_idiv hx hb d_Model_turtles_158 (by decide) ?_
        refine lv_goto (tgt := 194) hx hb d_Model_turtles_159 (by decide) ?_
        exact lb_Model_turtles_194 l dC dI cI cJ cB adK adV adA h v n hx hb hml hown hts hK hE hA hr hlocks _ _ _ _ _ _ hm _ _ _ hP hD hS (lv_sub hl [] rfl)
    · replace hm := if_f c_35 hm
      refine lv_aload_n hx hb d_Model_turtles_138 rfl (lv_at hl 1 rfl) ?_
      refine lv_iconst (v := 3) hx hb d_Model_turtles_139 (by decide) ?_
      obtain ⟨i_41, j_42, a_43, b_44, r_45, h_40, hm⟩ := om_some hm
      have hFc := x_free hD hS hA
      refine va_calll (va_runV (As := [.int 3]) (rest := []) ⟨hx, hb, hml, hown, hts⟩ (x_Model_fails l dC dI cI cJ cB adK adV adA h v s.heap.size n h_40) (cwV 1 hts (tw_GV tw_cons cw_Model_fails lk_Model_596 in_Model_fails sel_Model_fails ini_Model) rfl rfl rfl ⟨rfl, hd_Model_fails⟩ ⟨Nat.le_of_ble_eq_true rfl, Nat.le_of_ble_eq_true rfl⟩) (ypV hK hP hD hS hE hFc yo_12 rfl) rfl rfl hl.1 rfl (lv_room (Nat.le_of_ble_eq_true rfl)) d_Model_turtles_140 ⟨Nat.le_of_ble_eq_true rfl, Nat.le_of_ble_eq_true rfl⟩) hS (fun q _ h => hFc q h) hFc (fun r9 u9 t9 H locs ht hvm e9 hB hz1 hk1 hS => ?_)
      have e9 : r_45 = r9 := e9
      subst e9
      obtain ⟨hP, hD⟩ := y_aft hB ht hFc
      clear hFc hk1 hz1 hvm hB ht
      obtain ⟨e1i, e1j, e1a, e1b, e3⟩ := re4m hm
      obtain ⟨hP, hD⟩ := y_eq e1i e1j e1a e1b hP hD
      exact W.lret hx hb hr (fun t9 ht hW => ⟨⟨_, (), rfl, e3.symm, by rw [ht]; exact hP, hD⟩, hS.F ht⟩) hS.2.2 d_Model_turtles_143
  replace hm := if_f c_34 hm
  rcases Classical.em (v1 = 3) with c_46 | c_46
  · replace hm := if_t c_46 hm
    refine lv_tableIn (x := v1) (tgt := 131) hx hb d_Model_turtles_7 (by rw [c_46]; decide) (by rw [c_46]; decide) (by rw [c_46]; rfl) (by decide) ?_
    refine lv_iload_n hx hb d_Model_turtles_131 rfl (lv_at hl 3 rfl) ?_
    refine lv_bipush (v := 30) hx hb d_Model_turtles_132 (by decide) ?_
    refine lv_irem hx hb d_Model_turtles_134 (by decide) ?_
    refine lv_if_eq (tgt := 144) hx hb d_Model_turtles_135 (by decide) (fun c_47 => ?_) (fun c_47 => ?_)
    · replace hm := if_t c_47 hm
      refine lv_aload_n hx hb d_Model_turtles_144 rfl (lv_at hl 1 rfl) ?_
      refine va_get (D := (dC, dI)) (ci := 12) (v := .ref ((v 41))) (C := R_Model) (T := F_Model) (N := 127) hx hb htt iw_Model hown hK hP 0 yo_12 rfl 41 (Nat.le_of_ble_eq_true rfl) (htt _ lk_Model_213) (fun _ h9 => h9) yg_41 d_Model_turtles_145 ?_
      refine lv_iload hx hb d_Model_turtles_148 (lv_at hl 0 rfl) ?_
      refine lv_iload_n hx hb d_Model_turtles_150 rfl (lv_at hl 2 rfl) ?_
      refine lv_iconst (v := 4) hx hb d_Model_turtles_151 (by decide) ?_
      refine lv_icmp_ne (tgt := 162) hx hb d_Model_turtles_152 (by decide) (fun c_48 => ?_) (fun c_48 => ?_)
      · replace hm := if_f c_48 hm
        refine lv_iload_n hx hb d_Model_turtles_162 rfl (lv_at hl 2 rfl) ?_
        refine lv_iconst (v := 2) hx hb d_Model_turtles_163 (by decide) ?_
        refine lv_icmp_ne (tgt := 182) hx hb d_Model_turtles_164 (by decide) (fun c_49 => ?_) (fun c_49 => ?_)
        · replace hm := if_f c_49 hm
          refine lv_aload_n hx hb d_Model_turtles_182 rfl (lv_at hl 1 rfl) ?_
          refine va_get (D := (dC, dI)) (ci := 12) (v := .ref ((v 41))) (C := R_Model) (T := F_Model) (N := 127) hx hb htt iw_Model hown hK hP 0 yo_12 rfl 41 (Nat.le_of_ble_eq_true rfl) (htt _ lk_Model_213) (fun _ h9 => h9) yg_41 d_Model_turtles_183 ?_
          refine lv_iload hx hb d_Model_turtles_186 (lv_at hl 0 rfl) ?_
          obtain ⟨h_50, hm⟩ := ck_some hm
          refine va_iald hx hb hK hP 33 0 ya_41 rfl h_50 d_Model_turtles_188 ?_
          refine lv_iload_n hx hb d_Model_turtles_189 rfl (lv_at hl 3 rfl) ?_
          refine lv_bipush (v := 30) hx hb d_Model_turtles_190 (by decide) ?_
          refine lv_idiv hx hb d_Model_turtles_192 (by decide) ?_
          refine lv_isub hx hb d_Model_turtles_193 ?_
          exact lb_Model_turtles_194 l dC dI cI cJ cB adK adV adA h v n hx hb hml hown hts hK hE hA hr hlocks _ _ _ _ _ _ hm _ _ _ hP hD hS (lv_sub hl [] rfl)
        · replace hm := if_t c_49 hm
          refine lv_aload_n hx hb d_Model_turtles_167 rfl (lv_at hl 1 rfl) ?_
          refine va_get (D := (dC, dI)) (ci := 12) (v := .ref ((v 41))) (C := R_Model) (T := F_Model) (N := 127) hx hb htt iw_Model hown hK hP 0 yo_12 rfl 41 (Nat.le_of_ble_eq_true rfl) (htt _ lk_Model_213) (fun _ h9 => h9) yg_41 d_Model_turtles_168 ?_
          refine lv_iload hx hb d_Model_turtles_171 (lv_at hl 0 rfl) ?_
          obtain ⟨h_51, hm⟩ := ck_some hm
          refine va_iald hx hb hK hP 33 0 ya_41 rfl h_51 d_Model_turtles_173 ?_
          refine lv_iload_n hx hb d_Model_turtles_174 rfl (lv_at hl 3 rfl) ?_
          refine lv_bipush (v := 30) hx hb d_Model_turtles_175 (by decide) ?_
          refine lv_idiv hx hb d_Model_turtles_177 (by decide) ?_
          refine lv_iadd hx hb d_Model_turtles_178 ?_
          refine lv_goto (tgt := 194) hx hb d_Model_turtles_179 (by decide) ?_
          exact lb_Model_turtles_194 l dC dI cI cJ cB adK adV adA h v n hx hb hml hown hts hK hE hA hr hlocks _ _ _ _ _ _ hm _ _ _ hP hD hS (lv_sub hl [] rfl)
      · replace hm := if_t c_48 hm
        refine lv_iload_n hx hb d_Model_turtles_155 rfl (lv_at hl 3 rfl) ?_
        refine lv_bipush (v := 30) hx hb d_Model_turtles_156 (by decide) ?_
        refine lv_idiv hx hb d_Model_turtles_158 (by decide) ?_
        refine lv_goto (tgt := 194) hx hb d_Model_turtles_159 (by decide) ?_
        exact lb_Model_turtles_194 l dC dI cI cJ cB adK adV adA h v n hx hb hml hown hts hK hE hA hr hlocks _ _ _ _ _ _ hm _ _ _ hP hD hS (lv_sub hl [] rfl)
    · replace hm := if_f c_47 hm
      refine lv_aload_n hx hb d_Model_turtles_138 rfl (lv_at hl 1 rfl) ?_
      refine lv_iconst (v := 3) hx hb d_Model_turtles_139 (by decide) ?_
      obtain ⟨i_53, j_54, a_55, b_56, r_57, h_52, hm⟩ := om_some hm
      have hFc := x_free hD hS hA
      refine va_calll (va_runV (As := [.int 3]) (rest := []) ⟨hx, hb, hml, hown, hts⟩ (x_Model_fails l dC dI cI cJ cB adK adV adA h v s.heap.size n h_52) (cwV 1 hts (tw_GV tw_cons cw_Model_fails lk_Model_596 in_Model_fails sel_Model_fails ini_Model) rfl rfl rfl ⟨rfl, hd_Model_fails⟩ ⟨Nat.le_of_ble_eq_true rfl, Nat.le_of_ble_eq_true rfl⟩) (ypV hK hP hD hS hE hFc yo_12 rfl) rfl rfl hl.1 rfl (lv_room (Nat.le_of_ble_eq_true rfl)) d_Model_turtles_140 ⟨Nat.le_of_ble_eq_true rfl, Nat.le_of_ble_eq_true rfl⟩) hS (fun q _ h => hFc q h) hFc (fun r9 u9 t9 H locs ht hvm e9 hB hz1 hk1 hS => ?_)
      have e9 : r_57 = r9 := e9
      subst e9
      obtain ⟨hP, hD⟩ := y_aft hB ht hFc
      clear hFc hk1 hz1 hvm hB ht
      obtain ⟨e1i, e1j, e1a, e1b, e3⟩ := re4m hm
      obtain ⟨hP, hD⟩ := y_eq e1i e1j e1a e1b hP hD
      exact W.lret hx hb hr (fun t9 ht hW => ⟨⟨_, (), rfl, e3.symm, by rw [ht]; exact hP, hD⟩, hS.F ht⟩) hS.2.2 d_Model_turtles_143
  replace hm := if_f c_46 hm
  rcases Classical.em (v1 = 4) with c_58 | c_58
  · replace hm := if_t c_58 hm
    refine lv_tableIn (x := v1) (tgt := 131) hx hb d_Model_turtles_7 (by rw [c_58]; decide) (by rw [c_58]; decide) (by rw [c_58]; rfl) (by decide) ?_
    refine lv_iload_n hx hb d_Model_turtles_131 rfl (lv_at hl 3 rfl) ?_
    refine lv_bipush (v := 30) hx hb d_Model_turtles_132 (by decide) ?_
    refine lv_irem hx hb d_Model_turtles_134 (by decide) ?_
    refine lv_if_eq (tgt := 144) hx hb d_Model_turtles_135 (by decide) (fun c_59 => ?_) (fun c_59 => ?_)
    · replace hm := if_t c_59 hm
      refine lv_aload_n hx hb d_Model_turtles_144 rfl (lv_at hl 1 rfl) ?_
      refine va_get (D := (dC, dI)) (ci := 12) (v := .ref ((v 41))) (C := R_Model) (T := F_Model) (N := 127) hx hb htt iw_Model hown hK hP 0 yo_12 rfl 41 (Nat.le_of_ble_eq_true rfl) (htt _ lk_Model_213) (fun _ h9 => h9) yg_41 d_Model_turtles_145 ?_
      refine lv_iload hx hb d_Model_turtles_148 (lv_at hl 0 rfl) ?_
      refine lv_iload_n hx hb d_Model_turtles_150 rfl (lv_at hl 2 rfl) ?_
      refine lv_iconst (v := 4) hx hb d_Model_turtles_151 (by decide) ?_
      refine lv_icmp_ne (tgt := 162) hx hb d_Model_turtles_152 (by decide) (fun c_60 => ?_) (fun c_60 => ?_)
      · replace hm := if_f c_60 hm
        refine lv_iload_n hx hb d_Model_turtles_162 rfl (lv_at hl 2 rfl) ?_
        refine lv_iconst (v := 2) hx hb d_Model_turtles_163 (by decide) ?_
        refine lv_icmp_ne (tgt := 182) hx hb d_Model_turtles_164 (by decide) (fun c_61 => ?_) (fun c_61 => ?_)
        · replace hm := if_f c_61 hm
          refine lv_aload_n hx hb d_Model_turtles_182 rfl (lv_at hl 1 rfl) ?_
          refine va_get (D := (dC, dI)) (ci := 12) (v := .ref ((v 41))) (C := R_Model) (T := F_Model) (N := 127) hx hb htt iw_Model hown hK hP 0 yo_12 rfl 41 (Nat.le_of_ble_eq_true rfl) (htt _ lk_Model_213) (fun _ h9 => h9) yg_41 d_Model_turtles_183 ?_
          refine lv_iload hx hb d_Model_turtles_186 (lv_at hl 0 rfl) ?_
          obtain ⟨h_62, hm⟩ := ck_some hm
          refine va_iald hx hb hK hP 33 0 ya_41 rfl h_62 d_Model_turtles_188 ?_
          refine lv_iload_n hx hb d_Model_turtles_189 rfl (lv_at hl 3 rfl) ?_
          refine lv_bipush (v := 30) hx hb d_Model_turtles_190 (by decide) ?_
          refine lv_idiv hx hb d_Model_turtles_192 (by decide) ?_
          refine lv_isub hx hb d_Model_turtles_193 ?_
          exact lb_Model_turtles_194 l dC dI cI cJ cB adK adV adA h v n hx hb hml hown hts hK hE hA hr hlocks _ _ _ _ _ _ hm _ _ _ hP hD hS (lv_sub hl [] rfl)
        · replace hm := if_t c_61 hm
          refine lv_aload_n hx hb d_Model_turtles_167 rfl (lv_at hl 1 rfl) ?_
          refine va_get (D := (dC, dI)) (ci := 12) (v := .ref ((v 41))) (C := R_Model) (T := F_Model) (N := 127) hx hb htt iw_Model hown hK hP 0 yo_12 rfl 41 (Nat.le_of_ble_eq_true rfl) (htt _ lk_Model_213) (fun _ h9 => h9) yg_41 d_Model_turtles_168 ?_
          refine lv_iload hx hb d_Model_turtles_171 (lv_at hl 0 rfl) ?_
          obtain ⟨h_63, hm⟩ := ck_some hm
          refine va_iald hx hb hK hP 33 0 ya_41 rfl h_63 d_Model_turtles_173 ?_
          refine lv_iload_n hx hb d_Model_turtles_174 rfl (lv_at hl 3 rfl) ?_
          refine lv_bipush (v := 30) hx hb d_Model_turtles_175 (by decide) ?_
          refine lv_idiv hx hb d_Model_turtles_177 (by decide) ?_
          refine lv_iadd hx hb d_Model_turtles_178 ?_
          refine lv_goto (tgt := 194) hx hb d_Model_turtles_179 (by decide) ?_
          exact lb_Model_turtles_194 l dC dI cI cJ cB adK adV adA h v n hx hb hml hown hts hK hE hA hr hlocks _ _ _ _ _ _ hm _ _ _ hP hD hS (lv_sub hl [] rfl)
      · replace hm := if_t c_60 hm
        refine lv_iload_n hx hb d_Model_turtles_155 rfl (lv_at hl 3 rfl) ?_
        refine lv_bipush (v := 30) hx hb d_Model_turtles_156 (by decide) ?_
        refine lv_idiv hx hb d_Model_turtles_158 (by decide) ?_
        refine lv_goto (tgt := 194) hx hb d_Model_turtles_159 (by decide) ?_
        exact lb_Model_turtles_194 l dC dI cI cJ cB adK adV adA h v n hx hb hml hown hts hK hE hA hr hlocks _ _ _ _ _ _ hm _ _ _ hP hD hS (lv_sub hl [] rfl)
    · replace hm := if_f c_59 hm
      refine lv_aload_n hx hb d_Model_turtles_138 rfl (lv_at hl 1 rfl) ?_
      refine lv_iconst (v := 3) hx hb d_Model_turtles_139 (by decide) ?_
      obtain ⟨i_65, j_66, a_67, b_68, r_69, h_64, hm⟩ := om_some hm
      have hFc := x_free hD hS hA
      refine va_calll (va_runV (As := [.int 3]) (rest := []) ⟨hx, hb, hml, hown, hts⟩ (x_Model_fails l dC dI cI cJ cB adK adV adA h v s.heap.size n h_64) (cwV 1 hts (tw_GV tw_cons cw_Model_fails lk_Model_596 in_Model_fails sel_Model_fails ini_Model) rfl rfl rfl ⟨rfl, hd_Model_fails⟩ ⟨Nat.le_of_ble_eq_true rfl, Nat.le_of_ble_eq_true rfl⟩) (ypV hK hP hD hS hE hFc yo_12 rfl) rfl rfl hl.1 rfl (lv_room (Nat.le_of_ble_eq_true rfl)) d_Model_turtles_140 ⟨Nat.le_of_ble_eq_true rfl, Nat.le_of_ble_eq_true rfl⟩) hS (fun q _ h => hFc q h) hFc (fun r9 u9 t9 H locs ht hvm e9 hB hz1 hk1 hS => ?_)
      have e9 : r_69 = r9 := e9
      subst e9
      obtain ⟨hP, hD⟩ := y_aft hB ht hFc
      clear hFc hk1 hz1 hvm hB ht
      obtain ⟨e1i, e1j, e1a, e1b, e3⟩ := re4m hm
      obtain ⟨hP, hD⟩ := y_eq e1i e1j e1a e1b hP hD
      exact W.lret hx hb hr (fun t9 ht hW => ⟨⟨_, (), rfl, e3.symm, by rw [ht]; exact hP, hD⟩, hS.F ht⟩) hS.2.2 d_Model_turtles_143
  replace hm := if_f c_58 hm
  rcases Classical.em (v1 = 5) with c_70 | c_70
  · replace hm := if_t c_70 hm
    refine lv_tableIn (x := v1) (tgt := 204) hx hb d_Model_turtles_7 (by rw [c_70]; decide) (by rw [c_70]; decide) (by rw [c_70]; rfl) (by decide) ?_
    refine lv_aload_n hx hb d_Model_turtles_204 rfl (lv_at hl 1 rfl) ?_
    refine va_get (D := (dC, dI)) (ci := 12) (v := .ref ((v 43))) (C := R_Model) (T := F_Model) (N := 127) hx hb htt iw_Model hown hK hP 0 yo_12 rfl 43 (Nat.le_of_ble_eq_true rfl) (htt _ lk_Model_219) (fun _ h9 => h9) yg_43 d_Model_turtles_205 ?_
    refine lv_iload hx hb d_Model_turtles_208 (lv_at hl 0 rfl) ?_
    refine lv_iload_n hx hb d_Model_turtles_210 rfl (lv_at hl 2 rfl) ?_
    refine lv_bipush (v := 6) hx hb d_Model_turtles_211 (by decide) ?_
    refine lv_icmp_ne (tgt := 220) hx hb d_Model_turtles_213 (by decide) (fun c_71 => ?_) (fun c_71 => ?_)
    · replace hm := if_f c_71 hm
      refine lv_iconst (v := 0) hx hb d_Model_turtles_220 (by decide) ?_
      obtain ⟨h_72, hm⟩ := ck_some hm
      refine va_iast hx hb hK hP hD hS 35 0 ya_43 rfl h_72 d_Model_turtles_221 (fun H locs hP hD hS => ?_)
      obtain ⟨a_73, ea_73⟩ : ∃ y9 : Nat → Nat → Int32, y9 = sv a 43 x_1.toNatClampNeg 0 := ⟨_, rfl⟩
      replace hm := ob1_at ea_73 hm
      obtain ⟨hP, hD⟩ := yv_43 ea_73 hP hD
      refine lv_ldc2 (v := 3) hx hb hown (htt _ lk_Model_7) d_Model_turtles_222 ?_
      obtain ⟨e1i, e1j, e1a, e1b, e3⟩ := re4m hm
      obtain ⟨hP, hD⟩ := y_eq e1i e1j e1a e1b hP hD
      exact W.lret hx hb hr (fun t9 ht hW => ⟨⟨_, (), rfl, e3.symm, by rw [ht]; exact hP, hD⟩, hS.F ht⟩) hS.2.2 d_Model_turtles_225
    · replace hm := if_t c_71 hm
      refine lv_iconst (v := 1) hx hb d_Model_turtles_216 (by decide) ?_
      refine lv_goto (tgt := 221) hx hb d_Model_turtles_217 (by decide) ?_
      obtain ⟨h_74, hm⟩ := ck_some hm
      refine va_iast hx hb hK hP hD hS 35 0 ya_43 rfl h_74 d_Model_turtles_221 (fun H locs hP hD hS => ?_)
      obtain ⟨a_75, ea_75⟩ : ∃ y9 : Nat → Nat → Int32, y9 = sv a 43 x_1.toNatClampNeg 1 := ⟨_, rfl⟩
      replace hm := ob1_at ea_75 hm
      obtain ⟨hP, hD⟩ := yv_43 ea_75 hP hD
      refine lv_ldc2 (v := 3) hx hb hown (htt _ lk_Model_7) d_Model_turtles_222 ?_
      obtain ⟨e1i, e1j, e1a, e1b, e3⟩ := re4m hm
      obtain ⟨hP, hD⟩ := y_eq e1i e1j e1a e1b hP hD
      exact W.lret hx hb hr (fun t9 ht hW => ⟨⟨_, (), rfl, e3.symm, by rw [ht]; exact hP, hD⟩, hS.F ht⟩) hS.2.2 d_Model_turtles_225
  replace hm := if_f c_70 hm
  rcases Classical.em (v1 = 6) with c_76 | c_76
  · replace hm := if_t c_76 hm
    refine lv_tableIn (x := v1) (tgt := 204) hx hb d_Model_turtles_7 (by rw [c_76]; decide) (by rw [c_76]; decide) (by rw [c_76]; rfl) (by decide) ?_
    refine lv_aload_n hx hb d_Model_turtles_204 rfl (lv_at hl 1 rfl) ?_
    refine va_get (D := (dC, dI)) (ci := 12) (v := .ref ((v 43))) (C := R_Model) (T := F_Model) (N := 127) hx hb htt iw_Model hown hK hP 0 yo_12 rfl 43 (Nat.le_of_ble_eq_true rfl) (htt _ lk_Model_219) (fun _ h9 => h9) yg_43 d_Model_turtles_205 ?_
    refine lv_iload hx hb d_Model_turtles_208 (lv_at hl 0 rfl) ?_
    refine lv_iload_n hx hb d_Model_turtles_210 rfl (lv_at hl 2 rfl) ?_
    refine lv_bipush (v := 6) hx hb d_Model_turtles_211 (by decide) ?_
    refine lv_icmp_ne (tgt := 220) hx hb d_Model_turtles_213 (by decide) (fun c_77 => ?_) (fun c_77 => ?_)
    · replace hm := if_f c_77 hm
      refine lv_iconst (v := 0) hx hb d_Model_turtles_220 (by decide) ?_
      obtain ⟨h_78, hm⟩ := ck_some hm
      refine va_iast hx hb hK hP hD hS 35 0 ya_43 rfl h_78 d_Model_turtles_221 (fun H locs hP hD hS => ?_)
      obtain ⟨a_79, ea_79⟩ : ∃ y9 : Nat → Nat → Int32, y9 = sv a 43 x_1.toNatClampNeg 0 := ⟨_, rfl⟩
      replace hm := ob1_at ea_79 hm
      obtain ⟨hP, hD⟩ := yv_43 ea_79 hP hD
      refine lv_ldc2 (v := 3) hx hb hown (htt _ lk_Model_7) d_Model_turtles_222 ?_
      obtain ⟨e1i, e1j, e1a, e1b, e3⟩ := re4m hm
      obtain ⟨hP, hD⟩ := y_eq e1i e1j e1a e1b hP hD
      exact W.lret hx hb hr (fun t9 ht hW => ⟨⟨_, (), rfl, e3.symm, by rw [ht]; exact hP, hD⟩, hS.F ht⟩) hS.2.2 d_Model_turtles_225
    · replace hm := if_t c_77 hm
      refine lv_iconst (v := 1) hx hb d_Model_turtles_216 (by decide) ?_
      refine lv_goto (tgt := 221) hx hb d_Model_turtles_217 (by decide) ?_
      obtain ⟨h_80, hm⟩ := ck_some hm
      refine va_iast hx hb hK hP hD hS 35 0 ya_43 rfl h_80 d_Model_turtles_221 (fun H locs hP hD hS => ?_)
      obtain ⟨a_81, ea_81⟩ : ∃ y9 : Nat → Nat → Int32, y9 = sv a 43 x_1.toNatClampNeg 1 := ⟨_, rfl⟩
      replace hm := ob1_at ea_81 hm
      obtain ⟨hP, hD⟩ := yv_43 ea_81 hP hD
      refine lv_ldc2 (v := 3) hx hb hown (htt _ lk_Model_7) d_Model_turtles_222 ?_
      obtain ⟨e1i, e1j, e1a, e1b, e3⟩ := re4m hm
      obtain ⟨hP, hD⟩ := y_eq e1i e1j e1a e1b hP hD
      exact W.lret hx hb hr (fun t9 ht hW => ⟨⟨_, (), rfl, e3.symm, by rw [ht]; exact hP, hD⟩, hS.F ht⟩) hS.2.2 d_Model_turtles_225
  replace hm := if_f c_76 hm
  rcases Classical.em (v1 = 7) with c_82 | c_82
  · replace hm := if_t c_82 hm
    refine lv_tableIn (x := v1) (tgt := 226) hx hb d_Model_turtles_7 (by rw [c_82]; decide) (by rw [c_82]; decide) (by rw [c_82]; rfl) (by decide) ?_
    refine lv_iload_n hx hb d_Model_turtles_226 rfl (lv_at hl 3 rfl) ?_
    refine lv_if_lt (tgt := 236) hx hb d_Model_turtles_227 (by decide) (fun c_83 => ?_) (fun c_83 => ?_)
    · replace hm := if_t c_83 hm
      refine lv_aload_n hx hb d_Model_turtles_236 rfl (lv_at hl 1 rfl) ?_
      refine lv_iconst (v := 3) hx hb d_Model_turtles_237 (by decide) ?_
      obtain ⟨i_85, j_86, a_87, b_88, r_89, h_84, hm⟩ := om_some hm
      have hFc := x_free hD hS hA
      refine va_calll (va_runV (As := [.int 3]) (rest := []) ⟨hx, hb, hml, hown, hts⟩ (x_Model_fails l dC dI cI cJ cB adK adV adA h v s.heap.size n h_84) (cwV 1 hts (tw_GV tw_cons cw_Model_fails lk_Model_596 in_Model_fails sel_Model_fails ini_Model) rfl rfl rfl ⟨rfl, hd_Model_fails⟩ ⟨Nat.le_of_ble_eq_true rfl, Nat.le_of_ble_eq_true rfl⟩) (ypV hK hP hD hS hE hFc yo_12 rfl) rfl rfl hl.1 rfl (lv_room (Nat.le_of_ble_eq_true rfl)) d_Model_turtles_238 ⟨Nat.le_of_ble_eq_true rfl, Nat.le_of_ble_eq_true rfl⟩) hS (fun q _ h => hFc q h) hFc (fun r9 u9 t9 H locs ht hvm e9 hB hz1 hk1 hS => ?_)
      have e9 : r_89 = r9 := e9
      subst e9
      obtain ⟨hP, hD⟩ := y_aft hB ht hFc
      clear hFc hk1 hz1 hvm hB ht
      obtain ⟨e1i, e1j, e1a, e1b, e3⟩ := re4m hm
      obtain ⟨hP, hD⟩ := y_eq e1i e1j e1a e1b hP hD
      exact W.lret hx hb hr (fun t9 ht hW => ⟨⟨_, (), rfl, e3.symm, by rw [ht]; exact hP, hD⟩, hS.F ht⟩) hS.2.2 d_Model_turtles_241
    · replace hm := if_f c_83 hm
      refine lv_iload_n hx hb d_Model_turtles_230 rfl (lv_at hl 3 rfl) ?_
      refine lv_bipush (v := 7) hx hb d_Model_turtles_231 (by decide) ?_
      refine lv_icmp_le (tgt := 242) hx hb d_Model_turtles_233 (by decide) (fun c_90 => ?_) (fun c_90 => ?_)
      · replace hm := if_t c_90 hm
        refine lv_aload_n hx hb d_Model_turtles_242 rfl (lv_at hl 1 rfl) ?_
        refine va_get (D := (dC, dI)) (ci := 12) (v := .ref ((v 42))) (C := R_Model) (T := F_Model) (N := 127) hx hb htt iw_Model hown hK hP 0 yo_12 rfl 42 (Nat.le_of_ble_eq_true rfl) (htt _ lk_Model_216) (fun _ h9 => h9) yg_42 d_Model_turtles_243 ?_
        refine lv_iload hx hb d_Model_turtles_246 (lv_at hl 0 rfl) ?_
        refine lv_iload_n hx hb d_Model_turtles_248 rfl (lv_at hl 3 rfl) ?_
        obtain ⟨h_91, hm⟩ := ck_some hm
        refine va_iast hx hb hK hP hD hS 34 0 ya_42 rfl h_91 d_Model_turtles_249 (fun H locs hP hD hS => ?_)
        obtain ⟨a_92, ea_92⟩ : ∃ y9 : Nat → Nat → Int32, y9 = sv a 42 x_1.toNatClampNeg v2 := ⟨_, rfl⟩
        replace hm := ob1_at ea_92 hm
        obtain ⟨hP, hD⟩ := yv_42 ea_92 hP hD
        refine lv_ldc2 (v := 3) hx hb hown (htt _ lk_Model_7) d_Model_turtles_250 ?_
        obtain ⟨e1i, e1j, e1a, e1b, e3⟩ := re4m hm
        obtain ⟨hP, hD⟩ := y_eq e1i e1j e1a e1b hP hD
        exact W.lret hx hb hr (fun t9 ht hW => ⟨⟨_, (), rfl, e3.symm, by rw [ht]; exact hP, hD⟩, hS.F ht⟩) hS.2.2 d_Model_turtles_253
      · replace hm := if_f c_90 hm
        refine lv_aload_n hx hb d_Model_turtles_236 rfl (lv_at hl 1 rfl) ?_
        refine lv_iconst (v := 3) hx hb d_Model_turtles_237 (by decide) ?_
        obtain ⟨i_94, j_95, a_96, b_97, r_98, h_93, hm⟩ := om_some hm
        have hFc := x_free hD hS hA
        refine va_calll (va_runV (As := [.int 3]) (rest := []) ⟨hx, hb, hml, hown, hts⟩ (x_Model_fails l dC dI cI cJ cB adK adV adA h v s.heap.size n h_93) (cwV 1 hts (tw_GV tw_cons cw_Model_fails lk_Model_596 in_Model_fails sel_Model_fails ini_Model) rfl rfl rfl ⟨rfl, hd_Model_fails⟩ ⟨Nat.le_of_ble_eq_true rfl, Nat.le_of_ble_eq_true rfl⟩) (ypV hK hP hD hS hE hFc yo_12 rfl) rfl rfl hl.1 rfl (lv_room (Nat.le_of_ble_eq_true rfl)) d_Model_turtles_238 ⟨Nat.le_of_ble_eq_true rfl, Nat.le_of_ble_eq_true rfl⟩) hS (fun q _ h => hFc q h) hFc (fun r9 u9 t9 H locs ht hvm e9 hB hz1 hk1 hS => ?_)
        have e9 : r_98 = r9 := e9
        subst e9
        obtain ⟨hP, hD⟩ := y_aft hB ht hFc
        clear hFc hk1 hz1 hvm hB ht
        obtain ⟨e1i, e1j, e1a, e1b, e3⟩ := re4m hm
        obtain ⟨hP, hD⟩ := y_eq e1i e1j e1a e1b hP hD
        exact W.lret hx hb hr (fun t9 ht hW => ⟨⟨_, (), rfl, e3.symm, by rw [ht]; exact hP, hD⟩, hS.F ht⟩) hS.2.2 d_Model_turtles_241
  replace hm := if_f c_82 hm
  rcases Classical.em (v1 = 8) with c_99 | c_99
  · replace hm := if_t c_99 hm
    refine lv_tableIn (x := v1) (tgt := 254) hx hb d_Model_turtles_7 (by rw [c_99]; decide) (by rw [c_99]; decide) (by rw [c_99]; rfl) (by decide) ?_
    refine lv_aload_n hx hb d_Model_turtles_254 rfl (lv_at hl 1 rfl) ?_
    refine lv_iload hx hb d_Model_turtles_255 (lv_at hl 0 rfl) ?_
    refine lv_iconst (v := 0) hx hb d_Model_turtles_257 (by decide) ?_
    refine lv_iconst (v := 0) hx hb d_Model_turtles_258 (by decide) ?_
    refine lv_iconst (v := 0) hx hb d_Model_turtles_259 (by decide) ?_
    refine lv_iconst (v := 0) hx hb d_Model_turtles_260 (by decide) ?_
    obtain ⟨i_101, j_102, a_103, b_104, r_105, h_100, hm⟩ := om_some hm
    have hFc := x_free hD hS hA
    refine va_callv (va_runV (As := [.int x_1, .int 0, .int 0, .int 0, .int 0]) (rest := []) ⟨hx, hb, hml, hown, hts⟩ (x_Model_set l dC dI cI cJ cB adK adV adA h v s.heap.size n h_100) (cwV 5 hts (tw_GV tw_cons cw_Model_set lk_Model_819 in_Model_set sel_Model_set ini_Model) rfl rfl rfl ⟨rfl, hd_Model_set⟩ ⟨Nat.le_of_ble_eq_true rfl, Nat.le_of_ble_eq_true rfl⟩) (ypV hK hP hD hS hE hFc yo_12 rfl) rfl rfl hl.1 rfl (lv_room (Nat.le_of_ble_eq_true rfl)) d_Model_turtles_261 ⟨Nat.le_of_ble_eq_true rfl, Nat.le_of_ble_eq_true rfl⟩) hS (fun q _ h => hFc q h) hFc (fun u9 t9 H locs ht hvm e9 hB hz1 hk1 hS => ?_)
    obtain ⟨hP, hD⟩ := y_aft hB ht hFc
    clear hFc hk1 hz1 hvm hB ht
    refine lv_aload_n hx hb d_Model_turtles_264 rfl (lv_at hl 1 rfl) ?_
    refine va_get (D := (dC, dI)) (ci := 12) (v := .ref ((v 41))) (C := R_Model) (T := F_Model) (N := 127) hx hb htt iw_Model hown hK hP 0 yo_12 rfl 41 (Nat.le_of_ble_eq_true rfl) (htt _ lk_Model_213) (fun _ h9 => h9) yg_41 d_Model_turtles_265 ?_
    refine lv_iload hx hb d_Model_turtles_268 (lv_at hl 0 rfl) ?_
    refine lv_iconst (v := 0) hx hb d_Model_turtles_270 (by decide) ?_
    obtain ⟨h_106, hm⟩ := ck_some hm
    refine va_iast hx hb hK hP hD hS 33 0 ya_41 rfl h_106 d_Model_turtles_271 (fun H locs hP hD hS => ?_)
    obtain ⟨a_107, ea_107⟩ : ∃ y9 : Nat → Nat → Int32, y9 = sv a_103 41 x_1.toNatClampNeg 0 := ⟨_, rfl⟩
    replace hm := ob1_at ea_107 hm
    obtain ⟨hP, hD⟩ := yv_41 ea_107 hP hD
    refine lv_ldc2 (v := 3) hx hb hown (htt _ lk_Model_7) d_Model_turtles_272 ?_
    obtain ⟨e1i, e1j, e1a, e1b, e3⟩ := re4m hm
    obtain ⟨hP, hD⟩ := y_eq e1i e1j e1a e1b hP hD
    exact W.lret hx hb hr (fun t9 ht hW => ⟨⟨_, (), rfl, e3.symm, by rw [ht]; exact hP, hD⟩, hS.F ht⟩) hS.2.2 d_Model_turtles_275
  replace hm := if_f c_99 hm
  rcases Classical.em (v1 = 9) with c_108 | c_108
  · replace hm := if_t c_108 hm
    refine lv_tableIn (x := v1) (tgt := 276) hx hb d_Model_turtles_7 (by rw [c_108]; decide) (by rw [c_108]; decide) (by rw [c_108]; rfl) (by decide) ?_
    refine lv_iload_n hx hb d_Model_turtles_276 rfl (lv_at hl 3 rfl) ?_
    refine lv_sipush (v := -30000) hx hb d_Model_turtles_277 (by decide) ?_
    refine lv_icmp_lt (tgt := 304) hx hb d_Model_turtles_280 (by decide) (fun c_109 => ?_) (fun c_109 => ?_)
    · replace hm := if_t c_109 hm
      refine lv_aload_n hx hb d_Model_turtles_304 rfl (lv_at hl 1 rfl) ?_
      refine lv_iconst (v := 3) hx hb d_Model_turtles_305 (by decide) ?_
      obtain ⟨i_111, j_112, a_113, b_114, r_115, h_110, hm⟩ := om_some hm
      have hFc := x_free hD hS hA
      refine va_calll (va_runV (As := [.int 3]) (rest := []) ⟨hx, hb, hml, hown, hts⟩ (x_Model_fails l dC dI cI cJ cB adK adV adA h v s.heap.size n h_110) (cwV 1 hts (tw_GV tw_cons cw_Model_fails lk_Model_596 in_Model_fails sel_Model_fails ini_Model) rfl rfl rfl ⟨rfl, hd_Model_fails⟩ ⟨Nat.le_of_ble_eq_true rfl, Nat.le_of_ble_eq_true rfl⟩) (ypV hK hP hD hS hE hFc yo_12 rfl) rfl rfl hl.1 rfl (lv_room (Nat.le_of_ble_eq_true rfl)) d_Model_turtles_306 ⟨Nat.le_of_ble_eq_true rfl, Nat.le_of_ble_eq_true rfl⟩) hS (fun q _ h => hFc q h) hFc (fun r9 u9 t9 H locs ht hvm e9 hB hz1 hk1 hS => ?_)
      have e9 : r_115 = r9 := e9
      subst e9
      obtain ⟨hP, hD⟩ := y_aft hB ht hFc
      clear hFc hk1 hz1 hvm hB ht
      obtain ⟨e1i, e1j, e1a, e1b, e3⟩ := re4m hm
      obtain ⟨hP, hD⟩ := y_eq e1i e1j e1a e1b hP hD
      exact W.lret hx hb hr (fun t9 ht hW => ⟨⟨_, (), rfl, e3.symm, by rw [ht]; exact hP, hD⟩, hS.F ht⟩) hS.2.2 d_Model_turtles_309
    · replace hm := if_f c_109 hm
      refine lv_iload_n hx hb d_Model_turtles_283 rfl (lv_at hl 3 rfl) ?_
      refine lv_sipush (v := 30000) hx hb d_Model_turtles_284 (by decide) ?_
      refine lv_icmp_gt (tgt := 304) hx hb d_Model_turtles_287 (by decide) (fun c_116 => ?_) (fun c_116 => ?_)
      · replace hm := if_t c_116 hm
        refine lv_aload_n hx hb d_Model_turtles_304 rfl (lv_at hl 1 rfl) ?_
        refine lv_iconst (v := 3) hx hb d_Model_turtles_305 (by decide) ?_
        obtain ⟨i_118, j_119, a_120, b_121, r_122, h_117, hm⟩ := om_some hm
        have hFc := x_free hD hS hA
        refine va_calll (va_runV (As := [.int 3]) (rest := []) ⟨hx, hb, hml, hown, hts⟩ (x_Model_fails l dC dI cI cJ cB adK adV adA h v s.heap.size n h_117) (cwV 1 hts (tw_GV tw_cons cw_Model_fails lk_Model_596 in_Model_fails sel_Model_fails ini_Model) rfl rfl rfl ⟨rfl, hd_Model_fails⟩ ⟨Nat.le_of_ble_eq_true rfl, Nat.le_of_ble_eq_true rfl⟩) (ypV hK hP hD hS hE hFc yo_12 rfl) rfl rfl hl.1 rfl (lv_room (Nat.le_of_ble_eq_true rfl)) d_Model_turtles_306 ⟨Nat.le_of_ble_eq_true rfl, Nat.le_of_ble_eq_true rfl⟩) hS (fun q _ h => hFc q h) hFc (fun r9 u9 t9 H locs ht hvm e9 hB hz1 hk1 hS => ?_)
        have e9 : r_122 = r9 := e9
        subst e9
        obtain ⟨hP, hD⟩ := y_aft hB ht hFc
        clear hFc hk1 hz1 hvm hB ht
        obtain ⟨e1i, e1j, e1a, e1b, e3⟩ := re4m hm
        obtain ⟨hP, hD⟩ := y_eq e1i e1j e1a e1b hP hD
        exact W.lret hx hb hr (fun t9 ht hW => ⟨⟨_, (), rfl, e3.symm, by rw [ht]; exact hP, hD⟩, hS.F ht⟩) hS.2.2 d_Model_turtles_309
      · replace hm := if_f c_116 hm
        refine lv_iload_n hx hb d_Model_turtles_290 rfl (lv_at hl 4 rfl) ?_
        refine lv_sipush (v := -30000) hx hb d_Model_turtles_291 (by decide) ?_
        refine lv_icmp_lt (tgt := 304) hx hb d_Model_turtles_294 (by decide) (fun c_123 => ?_) (fun c_123 => ?_)
        · replace hm := if_t c_123 hm
          refine lv_aload_n hx hb d_Model_turtles_304 rfl (lv_at hl 1 rfl) ?_
          refine lv_iconst (v := 3) hx hb d_Model_turtles_305 (by decide) ?_
          obtain ⟨i_125, j_126, a_127, b_128, r_129, h_124, hm⟩ := om_some hm
          have hFc := x_free hD hS hA
          refine va_calll (va_runV (As := [.int 3]) (rest := []) ⟨hx, hb, hml, hown, hts⟩ (x_Model_fails l dC dI cI cJ cB adK adV adA h v s.heap.size n h_124) (cwV 1 hts (tw_GV tw_cons cw_Model_fails lk_Model_596 in_Model_fails sel_Model_fails ini_Model) rfl rfl rfl ⟨rfl, hd_Model_fails⟩ ⟨Nat.le_of_ble_eq_true rfl, Nat.le_of_ble_eq_true rfl⟩) (ypV hK hP hD hS hE hFc yo_12 rfl) rfl rfl hl.1 rfl (lv_room (Nat.le_of_ble_eq_true rfl)) d_Model_turtles_306 ⟨Nat.le_of_ble_eq_true rfl, Nat.le_of_ble_eq_true rfl⟩) hS (fun q _ h => hFc q h) hFc (fun r9 u9 t9 H locs ht hvm e9 hB hz1 hk1 hS => ?_)
          have e9 : r_129 = r9 := e9
          subst e9
          obtain ⟨hP, hD⟩ := y_aft hB ht hFc
          clear hFc hk1 hz1 hvm hB ht
          obtain ⟨e1i, e1j, e1a, e1b, e3⟩ := re4m hm
          obtain ⟨hP, hD⟩ := y_eq e1i e1j e1a e1b hP hD
          exact W.lret hx hb hr (fun t9 ht hW => ⟨⟨_, (), rfl, e3.symm, by rw [ht]; exact hP, hD⟩, hS.F ht⟩) hS.2.2 d_Model_turtles_309
        · replace hm := if_f c_123 hm
          refine lv_iload_n hx hb d_Model_turtles_297 rfl (lv_at hl 4 rfl) ?_
          refine lv_sipush (v := 30000) hx hb d_Model_turtles_298 (by decide) ?_
          refine lv_icmp_le (tgt := 310) hx hb d_Model_turtles_301 (by decide) (fun c_130 => ?_) (fun c_130 => ?_)
          · replace hm := if_t c_130 hm
            refine lv_aload_n hx hb d_Model_turtles_310 rfl (lv_at hl 1 rfl) ?_
            refine lv_iload hx hb d_Model_turtles_311 (lv_at hl 0 rfl) ?_
            refine lv_iconst (v := 2) hx hb d_Model_turtles_313 (by decide) ?_
            refine lv_iload_n hx hb d_Model_turtles_314 rfl (lv_at hl 3 rfl) ?_
            refine lv_imul hx hb d_Model_turtles_315 ?_
            refine lv_iconst (v := 0) hx hb d_Model_turtles_316 (by decide) ?_
            refine lv_iconst (v := 2) hx hb d_Model_turtles_317 (by decide) ?_
            refine lv_iload_n hx hb d_Model_turtles_318 rfl (lv_at hl 4 rfl) ?_
            refine lv_imul hx hb d_Model_turtles_319 ?_
            refine lv_iconst (v := 0) hx hb d_Model_turtles_320 (by decide) ?_
            obtain ⟨i_132, j_133, a_134, b_135, r_136, h_131, hm⟩ := om_some hm
            have hFc := x_free hD hS hA
            refine va_callv (va_runV (As := [.int x_1, .int (2 * v2), .int 0, .int (2 * v3), .int 0]) (rest := []) ⟨hx, hb, hml, hown, hts⟩ (x_Model_set l dC dI cI cJ cB adK adV adA h v s.heap.size n h_131) (cwV 5 hts (tw_GV tw_cons cw_Model_set lk_Model_819 in_Model_set sel_Model_set ini_Model) rfl rfl rfl ⟨rfl, hd_Model_set⟩ ⟨Nat.le_of_ble_eq_true rfl, Nat.le_of_ble_eq_true rfl⟩) (ypV hK hP hD hS hE hFc yo_12 rfl) rfl rfl hl.1 rfl (lv_room (Nat.le_of_ble_eq_true rfl)) d_Model_turtles_321 ⟨Nat.le_of_ble_eq_true rfl, Nat.le_of_ble_eq_true rfl⟩) hS (fun q _ h => hFc q h) hFc (fun u9 t9 H locs ht hvm e9 hB hz1 hk1 hS => ?_)
            obtain ⟨hP, hD⟩ := y_aft hB ht hFc
            clear hFc hk1 hz1 hvm hB ht
            refine lv_ldc2 (v := 3) hx hb hown (htt _ lk_Model_7) d_Model_turtles_324 ?_
            obtain ⟨e1i, e1j, e1a, e1b, e3⟩ := re4m hm
            obtain ⟨hP, hD⟩ := y_eq e1i e1j e1a e1b hP hD
            exact W.lret hx hb hr (fun t9 ht hW => ⟨⟨_, (), rfl, e3.symm, by rw [ht]; exact hP, hD⟩, hS.F ht⟩) hS.2.2 d_Model_turtles_327
          · replace hm := if_f c_130 hm
            refine lv_aload_n hx hb d_Model_turtles_304 rfl (lv_at hl 1 rfl) ?_
            refine lv_iconst (v := 3) hx hb d_Model_turtles_305 (by decide) ?_
            obtain ⟨i_138, j_139, a_140, b_141, r_142, h_137, hm⟩ := om_some hm
            have hFc := x_free hD hS hA
            refine va_calll (va_runV (As := [.int 3]) (rest := []) ⟨hx, hb, hml, hown, hts⟩ (x_Model_fails l dC dI cI cJ cB adK adV adA h v s.heap.size n h_137) (cwV 1 hts (tw_GV tw_cons cw_Model_fails lk_Model_596 in_Model_fails sel_Model_fails ini_Model) rfl rfl rfl ⟨rfl, hd_Model_fails⟩ ⟨Nat.le_of_ble_eq_true rfl, Nat.le_of_ble_eq_true rfl⟩) (ypV hK hP hD hS hE hFc yo_12 rfl) rfl rfl hl.1 rfl (lv_room (Nat.le_of_ble_eq_true rfl)) d_Model_turtles_306 ⟨Nat.le_of_ble_eq_true rfl, Nat.le_of_ble_eq_true rfl⟩) hS (fun q _ h => hFc q h) hFc (fun r9 u9 t9 H locs ht hvm e9 hB hz1 hk1 hS => ?_)
            have e9 : r_142 = r9 := e9
            subst e9
            obtain ⟨hP, hD⟩ := y_aft hB ht hFc
            clear hFc hk1 hz1 hvm hB ht
            obtain ⟨e1i, e1j, e1a, e1b, e3⟩ := re4m hm
            obtain ⟨hP, hD⟩ := y_eq e1i e1j e1a e1b hP hD
            exact W.lret hx hb hr (fun t9 ht hW => ⟨⟨_, (), rfl, e3.symm, by rw [ht]; exact hP, hD⟩, hS.F ht⟩) hS.2.2 d_Model_turtles_309
  replace hm := if_f c_108 hm
  rcases Classical.em (v1 = 10) with c_143 | c_143
  · replace hm := if_t c_143 hm
    refine lv_tableIn (x := v1) (tgt := 328) hx hb d_Model_turtles_7 (by rw [c_143]; decide) (by rw [c_143]; decide) (by rw [c_143]; rfl) (by decide) ?_
    refine lv_iconst (v := 0) hx hb d_Model_turtles_328 (by decide) ?_
    refine lv_istore (lv' := [(5, .int 0), (4, .int x_1), (0, .ref h), (1, .int v1), (2, .int v2), (3, .int v3)]) hx hb d_Model_turtles_329 hl (by decide) rfl (fun ls hl => ?_)
    exact lb_Model_turtles_331 l dC dI cI cJ cB adK adV adA h v n hx hb hml hown hts hK hE hA hr hlocks n _ _ _ _ _ hm _ _ _ hP hD hS (lv_sub hl [2, 0] rfl)
  replace hm := if_f c_143 hm
  rcases Classical.em (v1 = 11) with c_144 | c_144
  · replace hm := if_t c_144 hm
    refine lv_tableIn (x := v1) (tgt := 357) hx hb d_Model_turtles_7 (by rw [c_144]; decide) (by rw [c_144]; decide) (by rw [c_144]; rfl) (by decide) ?_
    refine lv_aload_n hx hb d_Model_turtles_357 rfl (lv_at hl 1 rfl) ?_
    refine lv_iload_n hx hb d_Model_turtles_358 rfl (lv_at hl 3 rfl) ?_
    refine va_put (D := (dC, dI)) (ci := 12) (v := .int v2) (ty := .int) (C := R_Model) (T := F_Model) (N := 127) hx hb htt iw_Model t_Model t_Model_ok n_Model hown hK hP hD hS 0 yo_12 rfl 47 (Nat.le_of_ble_eq_true rfl) (htt _ lk_Model_366) (fun _ h9 => h9) rfl (by decide +kernel) rfl rfl yl_47 d_Model_turtles_359 (fun H locs hP hD hS => ?_)
    obtain ⟨i_145, ei_145⟩ : ∃ y9 : Nat → Int32, y9 = upd i 47 v2 := ⟨_, rfl⟩
    replace hm := ob1_at ei_145 hm
    obtain ⟨hP, hD⟩ := yw_47 ei_145 hP hD
    refine lv_ldc2 (v := 3) hx hb hown (htt _ lk_Model_7) d_Model_turtles_362 ?_
    obtain ⟨e1i, e1j, e1a, e1b, e3⟩ := re4m hm
    obtain ⟨hP, hD⟩ := y_eq e1i e1j e1a e1b hP hD
    exact W.lret hx hb hr (fun t9 ht hW => ⟨⟨_, (), rfl, e3.symm, by rw [ht]; exact hP, hD⟩, hS.F ht⟩) hS.2.2 d_Model_turtles_365
  replace hm := if_f c_144 hm
  rcases Classical.em (v1 = 12) with c_146 | c_146
  · replace hm := if_t c_146 hm
    refine lv_tableIn (x := v1) (tgt := 366) hx hb d_Model_turtles_7 (by rw [c_146]; decide) (by rw [c_146]; decide) (by rw [c_146]; rfl) (by decide) ?_
    refine lv_bipush (v := 30) hx hb d_Model_turtles_366 (by decide) ?_
    refine lv_aload_n hx hb d_Model_turtles_368 rfl (lv_at hl 1 rfl) ?_
    refine va_get (D := (dC, dI)) (ci := 12) (v := .ref ((v 41))) (C := R_Model) (T := F_Model) (N := 127) hx hb htt iw_Model hown hK hP 0 yo_12 rfl 41 (Nat.le_of_ble_eq_true rfl) (htt _ lk_Model_213) (fun _ h9 => h9) yg_41 d_Model_turtles_369 ?_
    refine lv_iload hx hb d_Model_turtles_372 (lv_at hl 0 rfl) ?_
    obtain ⟨h_147, hm⟩ := ck_some hm
    refine va_iald hx hb hK hP 33 0 ya_41 rfl h_147 d_Model_turtles_374 ?_
    refine lv_imul hx hb d_Model_turtles_375 ?_
    obtain ⟨r_149, h_148, hm⟩ := ob0_some hm
    have hFc := x_free0 hS hA
    refine va_calll (va_runS (As := [.int (30 * (a 41 x_1.toNatClampNeg))]) (rest := []) ⟨hx, hb, hml, hown, hts⟩ (x_Model_number l s.heap.size n h_148) (va_cwS 1 hts (tw_GS tw_cons cw_Model_number lk_Model_451 st_Model_number ini_Model) rfl rfl rfl hd_Model_number ⟨Nat.le_of_ble_eq_true rfl, Nat.le_of_ble_eq_true rfl⟩) xpS0 rfl rfl hl.1 rfl (lv_room (Nat.le_of_ble_eq_true rfl)) d_Model_turtles_376 ⟨Nat.le_of_ble_eq_true rfl, Nat.le_of_ble_eq_true rfl⟩) hS (fun q _ h => hFc q h) hFc (fun r9 u9 t9 H locs ht hvm e9 hB hz1 hk1 hS => ?_)
    have e9 : r_149 = r9 := e9
    subst e9
    replace hP := x_keep hP hk1
    clear hFc hk1 hz1 hvm hB ht
    obtain ⟨e1i, e1j, e1a, e1b, e3⟩ := re4m hm
    obtain ⟨hP, hD⟩ := y_eq e1i e1j e1a e1b hP hD
    exact W.lret hx hb hr (fun t9 ht hW => ⟨⟨_, (), rfl, e3.symm, by rw [ht]; exact hP, hD⟩, hS.F ht⟩) hS.2.2 d_Model_turtles_379
  replace hm := if_f c_146 hm
  rcases Classical.em (v1 = 13) with c_150 | c_150
  · replace hm := if_t c_150 hm
    refine lv_tableIn (x := v1) (tgt := 380) hx hb d_Model_turtles_7 (by rw [c_150]; decide) (by rw [c_150]; decide) (by rw [c_150]; rfl) (by decide) ?_
    refine lv_aload_n hx hb d_Model_turtles_380 rfl (lv_at hl 1 rfl) ?_
    refine va_get (D := (dC, dI)) (ci := 12) (v := .ref ((v 37))) (C := R_Model) (T := F_Model) (N := 127) hx hb htt iw_Model hown hK hP 0 yo_12 rfl 37 (Nat.le_of_ble_eq_true rfl) (htt _ lk_Model_201) (fun _ h9 => h9) yg_37 d_Model_turtles_381 ?_
    refine lv_iload hx hb d_Model_turtles_384 (lv_at hl 0 rfl) ?_
    obtain ⟨h_151, hm⟩ := ck_some hm
    refine va_iald hx hb hK hP 29 0 ya_37 rfl h_151 d_Model_turtles_386 ?_
    refine lv_i2l hx hb d_Model_turtles_387 rfl ?_
    refine lv_aload_n hx hb d_Model_turtles_388 rfl (lv_at hl 1 rfl) ?_
    refine va_get (D := (dC, dI)) (ci := 12) (v := .ref ((v 38))) (C := R_Model) (T := F_Model) (N := 127) hx hb htt iw_Model hown hK hP 0 yo_12 rfl 38 (Nat.le_of_ble_eq_true rfl) (htt _ lk_Model_204) (fun _ h9 => h9) yg_38 d_Model_turtles_389 ?_
    refine lv_iload hx hb d_Model_turtles_392 (lv_at hl 0 rfl) ?_
    obtain ⟨h_152, hm⟩ := ck_some hm
    refine va_iald hx hb hK hP 30 0 ya_38 rfl h_152 d_Model_turtles_394 ?_
    refine lv_i2l hx hb d_Model_turtles_395 rfl ?_
    refine lv_ldc2 (v := 2) hx hb hown (htt _ lk_Model_9) d_Model_turtles_396 ?_
    obtain ⟨r_154, h_153, hm⟩ := ob0_some hm
    have hFc := x_free0 hS hA
    refine va_calli (va_runS (As := [.long ((a 37 x_1.toNatClampNeg).toInt64), .long ((a 38 x_1.toNatClampNeg).toInt64), .long 2]) (rest := []) ⟨hx, hb, hml, hown, hts⟩ (x_Model_floor l s.heap.size n h_153) (va_cwS 3 hts (tw_GS tw_cons cw_Model_floor lk_Model_823 st_Model_floor ini_Model) rfl rfl rfl hd_Model_floor ⟨Nat.le_of_ble_eq_true rfl, Nat.le_of_ble_eq_true rfl⟩) xpS0 rfl rfl hl.1 rfl (lv_room (Nat.le_of_ble_eq_true rfl)) d_Model_turtles_399 ⟨Nat.le_of_ble_eq_true rfl, Nat.le_of_ble_eq_true rfl⟩) hS (fun q _ h => hFc q h) hFc (fun r9 u9 t9 H locs ht hvm e9 hB hz1 hk1 hS => ?_)
    have e9 : r_154 = r9 := e9
    subst e9
    replace hP := x_keep hP hk1
    clear hFc hk1 hz1 hvm hB ht
    obtain ⟨r_156, h_155, hm⟩ := ob0_some hm
    have hFc := x_free0 hS hA
    refine va_calll (va_runS (As := [.int r_154]) (rest := []) ⟨hx, hb, hml, hown, hts⟩ (x_Model_number l H.size n h_155) (va_cwS 1 hts (tw_GS tw_cons cw_Model_number lk_Model_451 st_Model_number ini_Model) rfl rfl rfl hd_Model_number ⟨Nat.le_of_ble_eq_true rfl, Nat.le_of_ble_eq_true rfl⟩) xpS0 rfl rfl hl.1 rfl (lv_room (Nat.le_of_ble_eq_true rfl)) d_Model_turtles_402 ⟨Nat.le_of_ble_eq_true rfl, Nat.le_of_ble_eq_true rfl⟩) hS (fun q _ h => hFc q h) hFc (fun r9 u9 t9 H locs ht hvm e9 hB hz1 hk1 hS => ?_)
    have e9 : r_156 = r9 := e9
    subst e9
    replace hP := x_keep hP hk1
    clear hFc hk1 hz1 hvm hB ht
    obtain ⟨e1i, e1j, e1a, e1b, e3⟩ := re4m hm
    obtain ⟨hP, hD⟩ := y_eq e1i e1j e1a e1b hP hD
    exact W.lret hx hb hr (fun t9 ht hW => ⟨⟨_, (), rfl, e3.symm, by rw [ht]; exact hP, hD⟩, hS.F ht⟩) hS.2.2 d_Model_turtles_405
  replace hm := if_f c_150 hm
  rcases Classical.em (v1 = 14) with c_157 | c_157
  · replace hm := if_t c_157 hm
    refine lv_tableIn (x := v1) (tgt := 406) hx hb d_Model_turtles_7 (by rw [c_157]; decide) (by rw [c_157]; decide) (by rw [c_157]; rfl) (by decide) ?_
    refine lv_aload_n hx hb d_Model_turtles_406 rfl (lv_at hl 1 rfl) ?_
    refine va_get (D := (dC, dI)) (ci := 12) (v := .ref ((v 39))) (C := R_Model) (T := F_Model) (N := 127) hx hb htt iw_Model hown hK hP 0 yo_12 rfl 39 (Nat.le_of_ble_eq_true rfl) (htt _ lk_Model_207) (fun _ h9 => h9) yg_39 d_Model_turtles_407 ?_
    refine lv_iload hx hb d_Model_turtles_410 (lv_at hl 0 rfl) ?_
    obtain ⟨h_158, hm⟩ := ck_some hm
    refine va_iald hx hb hK hP 31 0 ya_39 rfl h_158 d_Model_turtles_412 ?_
    refine lv_i2l hx hb d_Model_turtles_413 rfl ?_
    refine lv_aload_n hx hb d_Model_turtles_414 rfl (lv_at hl 1 rfl) ?_
    refine va_get (D := (dC, dI)) (ci := 12) (v := .ref ((v 40))) (C := R_Model) (T := F_Model) (N := 127) hx hb htt iw_Model hown hK hP 0 yo_12 rfl 40 (Nat.le_of_ble_eq_true rfl) (htt _ lk_Model_210) (fun _ h9 => h9) yg_40 d_Model_turtles_415 ?_
    refine lv_iload hx hb d_Model_turtles_418 (lv_at hl 0 rfl) ?_
    obtain ⟨h_159, hm⟩ := ck_some hm
    refine va_iald hx hb hK hP 32 0 ya_40 rfl h_159 d_Model_turtles_420 ?_
    refine lv_i2l hx hb d_Model_turtles_421 rfl ?_
    refine lv_ldc2 (v := 2) hx hb hown (htt _ lk_Model_9) d_Model_turtles_422 ?_
    obtain ⟨r_161, h_160, hm⟩ := ob0_some hm
    have hFc := x_free0 hS hA
    refine va_calli (va_runS (As := [.long ((a 39 x_1.toNatClampNeg).toInt64), .long ((a 40 x_1.toNatClampNeg).toInt64), .long 2]) (rest := []) ⟨hx, hb, hml, hown, hts⟩ (x_Model_floor l s.heap.size n h_160) (va_cwS 3 hts (tw_GS tw_cons cw_Model_floor lk_Model_823 st_Model_floor ini_Model) rfl rfl rfl hd_Model_floor ⟨Nat.le_of_ble_eq_true rfl, Nat.le_of_ble_eq_true rfl⟩) xpS0 rfl rfl hl.1 rfl (lv_room (Nat.le_of_ble_eq_true rfl)) d_Model_turtles_425 ⟨Nat.le_of_ble_eq_true rfl, Nat.le_of_ble_eq_true rfl⟩) hS (fun q _ h => hFc q h) hFc (fun r9 u9 t9 H locs ht hvm e9 hB hz1 hk1 hS => ?_)
    have e9 : r_161 = r9 := e9
    subst e9
    replace hP := x_keep hP hk1
    clear hFc hk1 hz1 hvm hB ht
    obtain ⟨r_163, h_162, hm⟩ := ob0_some hm
    have hFc := x_free0 hS hA
    refine va_calll (va_runS (As := [.int r_161]) (rest := []) ⟨hx, hb, hml, hown, hts⟩ (x_Model_number l H.size n h_162) (va_cwS 1 hts (tw_GS tw_cons cw_Model_number lk_Model_451 st_Model_number ini_Model) rfl rfl rfl hd_Model_number ⟨Nat.le_of_ble_eq_true rfl, Nat.le_of_ble_eq_true rfl⟩) xpS0 rfl rfl hl.1 rfl (lv_room (Nat.le_of_ble_eq_true rfl)) d_Model_turtles_428 ⟨Nat.le_of_ble_eq_true rfl, Nat.le_of_ble_eq_true rfl⟩) hS (fun q _ h => hFc q h) hFc (fun r9 u9 t9 H locs ht hvm e9 hB hz1 hk1 hS => ?_)
    have e9 : r_163 = r9 := e9
    subst e9
    replace hP := x_keep hP hk1
    clear hFc hk1 hz1 hvm hB ht
    obtain ⟨e1i, e1j, e1a, e1b, e3⟩ := re4m hm
    obtain ⟨hP, hD⟩ := y_eq e1i e1j e1a e1b hP hD
    exact W.lret hx hb hr (fun t9 ht hW => ⟨⟨_, (), rfl, e3.symm, by rw [ht]; exact hP, hD⟩, hS.F ht⟩) hS.2.2 d_Model_turtles_431
  replace hm := if_f c_157 hm
  rcases Classical.em (v1 = 15) with c_164 | c_164
  · replace hm := if_t c_164 hm
    refine lv_tableIn (x := v1) (tgt := 432) hx hb d_Model_turtles_7 (by rw [c_164]; decide) (by rw [c_164]; decide) (by rw [c_164]; rfl) (by decide) ?_
    refine lv_aload_n hx hb d_Model_turtles_432 rfl (lv_at hl 1 rfl) ?_
    refine va_get (D := (dC, dI)) (ci := 12) (v := .ref ((v 42))) (C := R_Model) (T := F_Model) (N := 127) hx hb htt iw_Model hown hK hP 0 yo_12 rfl 42 (Nat.le_of_ble_eq_true rfl) (htt _ lk_Model_216) (fun _ h9 => h9) yg_42 d_Model_turtles_433 ?_
    refine lv_iload hx hb d_Model_turtles_436 (lv_at hl 0 rfl) ?_
    obtain ⟨h_165, hm⟩ := ck_some hm
    refine va_iald hx hb hK hP 34 0 ya_42 rfl h_165 d_Model_turtles_438 ?_
    obtain ⟨r_167, h_166, hm⟩ := ob0_some hm
    have hFc := x_free0 hS hA
    refine va_calll (va_runS (As := [.int (a 42 x_1.toNatClampNeg)]) (rest := []) ⟨hx, hb, hml, hown, hts⟩ (x_Model_number l s.heap.size n h_166) (va_cwS 1 hts (tw_GS tw_cons cw_Model_number lk_Model_451 st_Model_number ini_Model) rfl rfl rfl hd_Model_number ⟨Nat.le_of_ble_eq_true rfl, Nat.le_of_ble_eq_true rfl⟩) xpS0 rfl rfl hl.1 rfl (lv_room (Nat.le_of_ble_eq_true rfl)) d_Model_turtles_439 ⟨Nat.le_of_ble_eq_true rfl, Nat.le_of_ble_eq_true rfl⟩) hS (fun q _ h => hFc q h) hFc (fun r9 u9 t9 H locs ht hvm e9 hB hz1 hk1 hS => ?_)
    have e9 : r_167 = r9 := e9
    subst e9
    replace hP := x_keep hP hk1
    clear hFc hk1 hz1 hvm hB ht
    obtain ⟨e1i, e1j, e1a, e1b, e3⟩ := re4m hm
    obtain ⟨hP, hD⟩ := y_eq e1i e1j e1a e1b hP hD
    exact W.lret hx hb hr (fun t9 ht hW => ⟨⟨_, (), rfl, e3.symm, by rw [ht]; exact hP, hD⟩, hS.F ht⟩) hS.2.2 d_Model_turtles_442
  replace hm := if_f c_164 hm
  rcases Classical.em (v1 = 16) with c_168 | c_168
  · replace hm := if_t c_168 hm
    refine lv_tableIn (x := v1) (tgt := 443) hx hb d_Model_turtles_7 (by rw [c_168]; decide) (by rw [c_168]; decide) (by rw [c_168]; rfl) (by decide) ?_
    refine lv_aload_n hx hb d_Model_turtles_443 rfl (lv_at hl 1 rfl) ?_
    refine va_get (D := (dC, dI)) (ci := 12) (v := .int (i 47)) (C := R_Model) (T := F_Model) (N := 127) hx hb htt iw_Model hown hK hP 0 yo_12 rfl 47 (Nat.le_of_ble_eq_true rfl) (htt _ lk_Model_366) (fun _ h9 => h9) yg_47 d_Model_turtles_444 ?_
    obtain ⟨r_170, h_169, hm⟩ := ob0_some hm
    have hFc := x_free0 hS hA
    refine va_calll (va_runS (As := [.int (i 47)]) (rest := []) ⟨hx, hb, hml, hown, hts⟩ (x_Model_number l s.heap.size n h_169) (va_cwS 1 hts (tw_GS tw_cons cw_Model_number lk_Model_451 st_Model_number ini_Model) rfl rfl rfl hd_Model_number ⟨Nat.le_of_ble_eq_true rfl, Nat.le_of_ble_eq_true rfl⟩) xpS0 rfl rfl hl.1 rfl (lv_room (Nat.le_of_ble_eq_true rfl)) d_Model_turtles_447 ⟨Nat.le_of_ble_eq_true rfl, Nat.le_of_ble_eq_true rfl⟩) hS (fun q _ h => hFc q h) hFc (fun r9 u9 t9 H locs ht hvm e9 hB hz1 hk1 hS => ?_)
    have e9 : r_170 = r9 := e9
    subst e9
    replace hP := x_keep hP hk1
    clear hFc hk1 hz1 hvm hB ht
    obtain ⟨e1i, e1j, e1a, e1b, e3⟩ := re4m hm
    obtain ⟨hP, hD⟩ := y_eq e1i e1j e1a e1b hP hD
    exact W.lret hx hb hr (fun t9 ht hW => ⟨⟨_, (), rfl, e3.symm, by rw [ht]; exact hP, hD⟩, hS.F ht⟩) hS.2.2 d_Model_turtles_450
  replace hm := if_f c_168 hm
  rcases Classical.em (v1 = 17) with c_171 | c_171
  · replace hm := if_t c_171 hm
    refine lv_tableIn (x := v1) (tgt := 451) hx hb d_Model_turtles_7 (by rw [c_171]; decide) (by rw [c_171]; decide) (by rw [c_171]; rfl) (by decide) ?_
    refine lv_iconst (v := 0) hx hb d_Model_turtles_451 (by decide) ?_
    refine lv_aload_n hx hb d_Model_turtles_452 rfl (lv_at hl 1 rfl) ?_
    refine lv_aload_n hx hb d_Model_turtles_453 rfl (lv_at hl 1 rfl) ?_
    refine va_get (D := (dC, dI)) (ci := 12) (v := .ref ((v 37))) (C := R_Model) (T := F_Model) (N := 127) hx hb htt iw_Model hown hK hP 0 yo_12 rfl 37 (Nat.le_of_ble_eq_true rfl) (htt _ lk_Model_201) (fun _ h9 => h9) yg_37 d_Model_turtles_454 ?_
    refine lv_iload hx hb d_Model_turtles_457 (lv_at hl 0 rfl) ?_
    obtain ⟨h_172, hm⟩ := ck_some hm
    refine va_iald hx hb hK hP 29 0 ya_37 rfl h_172 d_Model_turtles_459 ?_
    refine lv_iconst (v := 1) hx hb d_Model_turtles_460 (by decide) ?_
    refine lv_iadd hx hb d_Model_turtles_461 ?_
    refine lv_i2l hx hb d_Model_turtles_462 rfl ?_
    refine lv_aload_n hx hb d_Model_turtles_463 rfl (lv_at hl 1 rfl) ?_
    refine va_get (D := (dC, dI)) (ci := 12) (v := .ref ((v 38))) (C := R_Model) (T := F_Model) (N := 127) hx hb htt iw_Model hown hK hP 0 yo_12 rfl 38 (Nat.le_of_ble_eq_true rfl) (htt _ lk_Model_204) (fun _ h9 => h9) yg_38 d_Model_turtles_464 ?_
    refine lv_iload hx hb d_Model_turtles_467 (lv_at hl 0 rfl) ?_
    obtain ⟨h_173, hm⟩ := ck_some hm
    refine va_iald hx hb hK hP 30 0 ya_38 rfl h_173 d_Model_turtles_469 ?_
    refine lv_i2l hx hb d_Model_turtles_470 rfl ?_
    refine lv_ldc2 (v := 2) hx hb hown (htt _ lk_Model_9) d_Model_turtles_471 ?_
    obtain ⟨r_175, h_174, hm⟩ := ob0_some hm
    have hFc := x_free0 hS hA
    refine va_calli (va_runS (As := [.long (((a 37 x_1.toNatClampNeg) + 1).toInt64), .long ((a 38 x_1.toNatClampNeg).toInt64), .long 2]) (rest := [.ref h, .int 0]) ⟨hx, hb, hml, hown, hts⟩ (x_Model_floor l s.heap.size n h_174) (va_cwS 3 hts (tw_GS tw_cons cw_Model_floor lk_Model_823 st_Model_floor ini_Model) rfl rfl rfl hd_Model_floor ⟨Nat.le_of_ble_eq_true rfl, Nat.le_of_ble_eq_true rfl⟩) xpS0 rfl rfl hl.1 rfl (lv_room (Nat.le_of_ble_eq_true rfl)) d_Model_turtles_474 ⟨Nat.le_of_ble_eq_true rfl, Nat.le_of_ble_eq_true rfl⟩) hS (fun q _ h => hFc q h) hFc (fun r9 u9 t9 H locs ht hvm e9 hB hz1 hk1 hS => ?_)
    have e9 : r_175 = r9 := e9
    subst e9
    replace hP := x_keep hP hk1
    clear hFc hk1 hz1 hvm hB ht
    refine lv_aload_n hx hb d_Model_turtles_477 rfl (lv_at hl 1 rfl) ?_
    refine va_get (D := (dC, dI)) (ci := 12) (v := .ref ((v 39))) (C := R_Model) (T := F_Model) (N := 127) hx hb htt iw_Model hown hK hP 0 yo_12 rfl 39 (Nat.le_of_ble_eq_true rfl) (htt _ lk_Model_207) (fun _ h9 => h9) yg_39 d_Model_turtles_478 ?_
    refine lv_iload hx hb d_Model_turtles_481 (lv_at hl 0 rfl) ?_
    obtain ⟨h_176, hm⟩ := ck_some hm
    refine va_iald hx hb hK hP 31 0 ya_39 rfl h_176 d_Model_turtles_483 ?_
    refine lv_iconst (v := 1) hx hb d_Model_turtles_484 (by decide) ?_
    refine lv_iadd hx hb d_Model_turtles_485 ?_
    refine lv_i2l hx hb d_Model_turtles_486 rfl ?_
    refine lv_aload_n hx hb d_Model_turtles_487 rfl (lv_at hl 1 rfl) ?_
    refine va_get (D := (dC, dI)) (ci := 12) (v := .ref ((v 40))) (C := R_Model) (T := F_Model) (N := 127) hx hb htt iw_Model hown hK hP 0 yo_12 rfl 40 (Nat.le_of_ble_eq_true rfl) (htt _ lk_Model_210) (fun _ h9 => h9) yg_40 d_Model_turtles_488 ?_
    refine lv_iload hx hb d_Model_turtles_491 (lv_at hl 0 rfl) ?_
    obtain ⟨h_177, hm⟩ := ck_some hm
    refine va_iald hx hb hK hP 32 0 ya_40 rfl h_177 d_Model_turtles_493 ?_
    refine lv_i2l hx hb d_Model_turtles_494 rfl ?_
    refine lv_ldc2 (v := 2) hx hb hown (htt _ lk_Model_9) d_Model_turtles_495 ?_
    obtain ⟨r_179, h_178, hm⟩ := ob0_some hm
    have hFc := x_free0 hS hA
    refine va_calli (va_runS (As := [.long (((a 39 x_1.toNatClampNeg) + 1).toInt64), .long ((a 40 x_1.toNatClampNeg).toInt64), .long 2]) (rest := [.int r_175, .ref h, .int 0]) ⟨hx, hb, hml, hown, hts⟩ (x_Model_floor l H.size n h_178) (va_cwS 3 hts (tw_GS tw_cons cw_Model_floor lk_Model_823 st_Model_floor ini_Model) rfl rfl rfl hd_Model_floor ⟨Nat.le_of_ble_eq_true rfl, Nat.le_of_ble_eq_true rfl⟩) xpS0 rfl rfl hl.1 rfl (lv_room (Nat.le_of_ble_eq_true rfl)) d_Model_turtles_498 ⟨Nat.le_of_ble_eq_true rfl, Nat.le_of_ble_eq_true rfl⟩) hS (fun q _ h => hFc q h) hFc (fun r9 u9 t9 H locs ht hvm e9 hB hz1 hk1 hS => ?_)
    have e9 : r_179 = r9 := e9
    subst e9
    replace hP := x_keep hP hk1
    clear hFc hk1 hz1 hvm hB ht
    obtain ⟨r_181, h_180, hm⟩ := ob0_some hm
    have hFc := x_free0 hS hA
    refine va_calli (va_runV (As := [.int r_175, .int r_179]) (rest := [.int 0]) ⟨hx, hb, hml, hown, hts⟩ (x_Model_dotAt l dC dI cI cJ cB adK adV adA h v H.size n h_180) (cwV 2 hts (tw_GV tw_cons cw_Model_dotAt lk_Model_827 in_Model_dotAt sel_Model_dotAt ini_Model) rfl rfl rfl ⟨rfl, hd_Model_dotAt⟩ ⟨Nat.le_of_ble_eq_true rfl, Nat.le_of_ble_eq_true rfl⟩) (ypVr hK hP hS hE hFc yo_12 rfl) rfl rfl hl.1 rfl (lv_room (Nat.le_of_ble_eq_true rfl)) d_Model_turtles_501 ⟨Nat.le_of_ble_eq_true rfl, Nat.le_of_ble_eq_true rfl⟩) hS (fun q _ h => hFc q h) hFc (fun r9 u9 t9 H locs ht hvm e9 hB hz1 hk1 hS => ?_)
    have e9 : r_181 = r9 := e9
    subst e9
    replace hP := x_keep hP hk1
    clear hFc hk1 hz1 hvm hB ht
    obtain ⟨r_183, h_182, hm⟩ := ob0_some hm
    have hFc := x_free0 hS hA
    refine va_calli (va_runS (As := [.int 0, .int r_181]) (rest := []) ⟨hx, hb, hml, hown, hts⟩ (x_Math_max l H.size n h_182) (va_cwS 2 hts (tw_GS tw_cons cw_Math_max lk_Model_830 st_Math_max ini_Math) rfl rfl rfl hd_Math_max ⟨Nat.le_of_ble_eq_true rfl, Nat.le_of_ble_eq_true rfl⟩) xpS0 rfl rfl hl.1 rfl (lv_room (Nat.le_of_ble_eq_true rfl)) d_Model_turtles_504 ⟨Nat.le_of_ble_eq_true rfl, Nat.le_of_ble_eq_true rfl⟩) hS (fun q _ h => hFc q h) hFc (fun r9 u9 t9 H locs ht hvm e9 hB hz1 hk1 hS => ?_)
    have e9 : r_183 = r9 := e9
    subst e9
    replace hP := x_keep hP hk1
    clear hFc hk1 hz1 hvm hB ht
    obtain ⟨r_185, h_184, hm⟩ := ob0_some hm
    have hFc := x_free0 hS hA
    refine va_calll (va_runS (As := [.int r_183]) (rest := []) ⟨hx, hb, hml, hown, hts⟩ (x_Model_number l H.size n h_184) (va_cwS 1 hts (tw_GS tw_cons cw_Model_number lk_Model_451 st_Model_number ini_Model) rfl rfl rfl hd_Model_number ⟨Nat.le_of_ble_eq_true rfl, Nat.le_of_ble_eq_true rfl⟩) xpS0 rfl rfl hl.1 rfl (lv_room (Nat.le_of_ble_eq_true rfl)) d_Model_turtles_507 ⟨Nat.le_of_ble_eq_true rfl, Nat.le_of_ble_eq_true rfl⟩) hS (fun q _ h => hFc q h) hFc (fun r9 u9 t9 H locs ht hvm e9 hB hz1 hk1 hS => ?_)
    have e9 : r_185 = r9 := e9
    subst e9
    replace hP := x_keep hP hk1
    clear hFc hk1 hz1 hvm hB ht
    obtain ⟨e1i, e1j, e1a, e1b, e3⟩ := re4m hm
    obtain ⟨hP, hD⟩ := y_eq e1i e1j e1a e1b hP hD
    exact W.lret hx hb hr (fun t9 ht hW => ⟨⟨_, (), rfl, e3.symm, by rw [ht]; exact hP, hD⟩, hS.F ht⟩) hS.2.2 d_Model_turtles_510
  replace hm := if_f c_171 hm
  refine lv_tableOut (x := v1) (tgt := 511) hx hb d_Model_turtles_7 (by have q0 := lv_neT c_2 (show (0 : Int32).toInt = 0 from by decide); have q1 := lv_neT c_18 (show (1 : Int32).toInt = 1 from by decide); have q2 := lv_neT c_34 (show (2 : Int32).toInt = 2 from by decide); have q3 := lv_neT c_46 (show (3 : Int32).toInt = 3 from by decide); have q4 := lv_neT c_58 (show (4 : Int32).toInt = 4 from by decide); have q5 := lv_neT c_70 (show (5 : Int32).toInt = 5 from by decide); have q6 := lv_neT c_76 (show (6 : Int32).toInt = 6 from by decide); have q7 := lv_neT c_82 (show (7 : Int32).toInt = 7 from by decide); have q8 := lv_neT c_99 (show (8 : Int32).toInt = 8 from by decide); have q9 := lv_neT c_108 (show (9 : Int32).toInt = 9 from by decide); have q10 := lv_neT c_143 (show (10 : Int32).toInt = 10 from by decide); have q11 := lv_neT c_144 (show (11 : Int32).toInt = 11 from by decide); have q12 := lv_neT c_146 (show (12 : Int32).toInt = 12 from by decide); have q13 := lv_neT c_150 (show (13 : Int32).toInt = 13 from by decide); have q14 := lv_neT c_157 (show (14 : Int32).toInt = 14 from by decide); have q15 := lv_neT c_164 (show (15 : Int32).toInt = 15 from by decide); have q16 := lv_neT c_168 (show (16 : Int32).toInt = 16 from by decide); have q17 := lv_neT c_171 (show (17 : Int32).toInt = 17 from by decide); omega) (by decide) ?_
  refine lv_aload_n hx hb d_Model_turtles_511 rfl (lv_at hl 1 rfl) ?_
  refine lv_aload_n hx hb d_Model_turtles_512 rfl (lv_at hl 1 rfl) ?_
  refine va_get (D := (dC, dI)) (ci := 12) (v := .ref ((v 37))) (C := R_Model) (T := F_Model) (N := 127) hx hb htt iw_Model hown hK hP 0 yo_12 rfl 37 (Nat.le_of_ble_eq_true rfl) (htt _ lk_Model_201) (fun _ h9 => h9) yg_37 d_Model_turtles_513 ?_
  refine lv_iload_n hx hb d_Model_turtles_516 rfl (lv_at hl 3 rfl) ?_
  obtain ⟨h_186, hm⟩ := ck_some hm
  refine va_iald hx hb hK hP 29 0 ya_37 rfl h_186 d_Model_turtles_517 ?_
  refine lv_aload_n hx hb d_Model_turtles_518 rfl (lv_at hl 1 rfl) ?_
  refine va_get (D := (dC, dI)) (ci := 12) (v := .ref ((v 37))) (C := R_Model) (T := F_Model) (N := 127) hx hb htt iw_Model hown hK hP 0 yo_12 rfl 37 (Nat.le_of_ble_eq_true rfl) (htt _ lk_Model_201) (fun _ h9 => h9) yg_37 d_Model_turtles_519 ?_
  refine lv_iload_n hx hb d_Model_turtles_522 rfl (lv_at hl 4 rfl) ?_
  obtain ⟨h_187, hm⟩ := ck_some hm
  refine va_iald hx hb hK hP 29 0 ya_37 rfl h_187 d_Model_turtles_523 ?_
  refine lv_icmp_ne (tgt := 576) hx hb d_Model_turtles_524 (by decide) (fun c_188 => ?_) (fun c_188 => ?_)
  · replace hm := if_f c_188 hm
    refine lv_iconst (v := 0) hx hb d_Model_turtles_576 (by decide) ?_
    obtain ⟨r_190, h_189, hm⟩ := ob0_some hm
    have hFc := x_free0 hS hA
    refine va_calll (va_runV (As := [.int 0]) (rest := []) ⟨hx, hb, hml, hown, hts⟩ (x_Model_truth l dC dI cI cJ cB adK adV adA h v s.heap.size n h_189) (cwV 1 hts (tw_GV tw_cons cw_Model_truth lk_Model_721 in_Model_truth sel_Model_truth ini_Model) rfl rfl rfl ⟨rfl, hd_Model_truth⟩ ⟨Nat.le_of_ble_eq_true rfl, Nat.le_of_ble_eq_true rfl⟩) (ypVr hK hP hS hE hFc yo_12 rfl) rfl rfl hl.1 rfl (lv_room (Nat.le_of_ble_eq_true rfl)) d_Model_turtles_577 ⟨Nat.le_of_ble_eq_true rfl, Nat.le_of_ble_eq_true rfl⟩) hS (fun q _ h => hFc q h) hFc (fun r9 u9 t9 H locs ht hvm e9 hB hz1 hk1 hS => ?_)
    have e9 : r_190 = r9 := e9
    subst e9
    replace hP := x_keep hP hk1
    clear hFc hk1 hz1 hvm hB ht
    obtain ⟨e1i, e1j, e1a, e1b, e3⟩ := re4m hm
    obtain ⟨hP, hD⟩ := y_eq e1i e1j e1a e1b hP hD
    exact W.lret hx hb hr (fun t9 ht hW => ⟨⟨_, (), rfl, e3.symm, by rw [ht]; exact hP, hD⟩, hS.F ht⟩) hS.2.2 d_Model_turtles_580
  · replace hm := if_t c_188 hm
    refine lv_aload_n hx hb d_Model_turtles_527 rfl (lv_at hl 1 rfl) ?_
    refine va_get (D := (dC, dI)) (ci := 12) (v := .ref ((v 38))) (C := R_Model) (T := F_Model) (N := 127) hx hb htt iw_Model hown hK hP 0 yo_12 rfl 38 (Nat.le_of_ble_eq_true rfl) (htt _ lk_Model_204) (fun _ h9 => h9) yg_38 d_Model_turtles_528 ?_
    refine lv_iload_n hx hb d_Model_turtles_531 rfl (lv_at hl 3 rfl) ?_
    obtain ⟨h_191, hm⟩ := ck_some hm
    refine va_iald hx hb hK hP 30 0 ya_38 rfl h_191 d_Model_turtles_532 ?_
    refine lv_aload_n hx hb d_Model_turtles_533 rfl (lv_at hl 1 rfl) ?_
    refine va_get (D := (dC, dI)) (ci := 12) (v := .ref ((v 38))) (C := R_Model) (T := F_Model) (N := 127) hx hb htt iw_Model hown hK hP 0 yo_12 rfl 38 (Nat.le_of_ble_eq_true rfl) (htt _ lk_Model_204) (fun _ h9 => h9) yg_38 d_Model_turtles_534 ?_
    refine lv_iload_n hx hb d_Model_turtles_537 rfl (lv_at hl 4 rfl) ?_
    obtain ⟨h_192, hm⟩ := ck_some hm
    refine va_iald hx hb hK hP 30 0 ya_38 rfl h_192 d_Model_turtles_538 ?_
    refine lv_icmp_ne (tgt := 576) hx hb d_Model_turtles_539 (by decide) (fun c_193 => ?_) (fun c_193 => ?_)
    · replace hm := if_f c_193 hm
      refine lv_iconst (v := 0) hx hb d_Model_turtles_576 (by decide) ?_
      obtain ⟨r_195, h_194, hm⟩ := ob0_some hm
      have hFc := x_free0 hS hA
      refine va_calll (va_runV (As := [.int 0]) (rest := []) ⟨hx, hb, hml, hown, hts⟩ (x_Model_truth l dC dI cI cJ cB adK adV adA h v s.heap.size n h_194) (cwV 1 hts (tw_GV tw_cons cw_Model_truth lk_Model_721 in_Model_truth sel_Model_truth ini_Model) rfl rfl rfl ⟨rfl, hd_Model_truth⟩ ⟨Nat.le_of_ble_eq_true rfl, Nat.le_of_ble_eq_true rfl⟩) (ypVr hK hP hS hE hFc yo_12 rfl) rfl rfl hl.1 rfl (lv_room (Nat.le_of_ble_eq_true rfl)) d_Model_turtles_577 ⟨Nat.le_of_ble_eq_true rfl, Nat.le_of_ble_eq_true rfl⟩) hS (fun q _ h => hFc q h) hFc (fun r9 u9 t9 H locs ht hvm e9 hB hz1 hk1 hS => ?_)
      have e9 : r_195 = r9 := e9
      subst e9
      replace hP := x_keep hP hk1
      clear hFc hk1 hz1 hvm hB ht
      obtain ⟨e1i, e1j, e1a, e1b, e3⟩ := re4m hm
      obtain ⟨hP, hD⟩ := y_eq e1i e1j e1a e1b hP hD
      exact W.lret hx hb hr (fun t9 ht hW => ⟨⟨_, (), rfl, e3.symm, by rw [ht]; exact hP, hD⟩, hS.F ht⟩) hS.2.2 d_Model_turtles_580
    · replace hm := if_t c_193 hm
      refine lv_aload_n hx hb d_Model_turtles_542 rfl (lv_at hl 1 rfl) ?_
      refine va_get (D := (dC, dI)) (ci := 12) (v := .ref ((v 39))) (C := R_Model) (T := F_Model) (N := 127) hx hb htt iw_Model hown hK hP 0 yo_12 rfl 39 (Nat.le_of_ble_eq_true rfl) (htt _ lk_Model_207) (fun _ h9 => h9) yg_39 d_Model_turtles_543 ?_
      refine lv_iload_n hx hb d_Model_turtles_546 rfl (lv_at hl 3 rfl) ?_
      obtain ⟨h_196, hm⟩ := ck_some hm
      refine va_iald hx hb hK hP 31 0 ya_39 rfl h_196 d_Model_turtles_547 ?_
      refine lv_aload_n hx hb d_Model_turtles_548 rfl (lv_at hl 1 rfl) ?_
      refine va_get (D := (dC, dI)) (ci := 12) (v := .ref ((v 39))) (C := R_Model) (T := F_Model) (N := 127) hx hb htt iw_Model hown hK hP 0 yo_12 rfl 39 (Nat.le_of_ble_eq_true rfl) (htt _ lk_Model_207) (fun _ h9 => h9) yg_39 d_Model_turtles_549 ?_
      refine lv_iload_n hx hb d_Model_turtles_552 rfl (lv_at hl 4 rfl) ?_
      obtain ⟨h_197, hm⟩ := ck_some hm
      refine va_iald hx hb hK hP 31 0 ya_39 rfl h_197 d_Model_turtles_553 ?_
      refine lv_icmp_ne (tgt := 576) hx hb d_Model_turtles_554 (by decide) (fun c_198 => ?_) (fun c_198 => ?_)
      · replace hm := if_f c_198 hm
        refine lv_iconst (v := 0) hx hb d_Model_turtles_576 (by decide) ?_
        obtain ⟨r_200, h_199, hm⟩ := ob0_some hm
        have hFc := x_free0 hS hA
        refine va_calll (va_runV (As := [.int 0]) (rest := []) ⟨hx, hb, hml, hown, hts⟩ (x_Model_truth l dC dI cI cJ cB adK adV adA h v s.heap.size n h_199) (cwV 1 hts (tw_GV tw_cons cw_Model_truth lk_Model_721 in_Model_truth sel_Model_truth ini_Model) rfl rfl rfl ⟨rfl, hd_Model_truth⟩ ⟨Nat.le_of_ble_eq_true rfl, Nat.le_of_ble_eq_true rfl⟩) (ypVr hK hP hS hE hFc yo_12 rfl) rfl rfl hl.1 rfl (lv_room (Nat.le_of_ble_eq_true rfl)) d_Model_turtles_577 ⟨Nat.le_of_ble_eq_true rfl, Nat.le_of_ble_eq_true rfl⟩) hS (fun q _ h => hFc q h) hFc (fun r9 u9 t9 H locs ht hvm e9 hB hz1 hk1 hS => ?_)
        have e9 : r_200 = r9 := e9
        subst e9
        replace hP := x_keep hP hk1
        clear hFc hk1 hz1 hvm hB ht
        obtain ⟨e1i, e1j, e1a, e1b, e3⟩ := re4m hm
        obtain ⟨hP, hD⟩ := y_eq e1i e1j e1a e1b hP hD
        exact W.lret hx hb hr (fun t9 ht hW => ⟨⟨_, (), rfl, e3.symm, by rw [ht]; exact hP, hD⟩, hS.F ht⟩) hS.2.2 d_Model_turtles_580
      · replace hm := if_t c_198 hm
        refine lv_aload_n hx hb d_Model_turtles_557 rfl (lv_at hl 1 rfl) ?_
        refine va_get (D := (dC, dI)) (ci := 12) (v := .ref ((v 40))) (C := R_Model) (T := F_Model) (N := 127) hx hb htt iw_Model hown hK hP 0 yo_12 rfl 40 (Nat.le_of_ble_eq_true rfl) (htt _ lk_Model_210) (fun _ h9 => h9) yg_40 d_Model_turtles_558 ?_
        refine lv_iload_n hx hb d_Model_turtles_561 rfl (lv_at hl 3 rfl) ?_
        obtain ⟨h_201, hm⟩ := ck_some hm
        refine va_iald hx hb hK hP 32 0 ya_40 rfl h_201 d_Model_turtles_562 ?_
        refine lv_aload_n hx hb d_Model_turtles_563 rfl (lv_at hl 1 rfl) ?_
        refine va_get (D := (dC, dI)) (ci := 12) (v := .ref ((v 40))) (C := R_Model) (T := F_Model) (N := 127) hx hb htt iw_Model hown hK hP 0 yo_12 rfl 40 (Nat.le_of_ble_eq_true rfl) (htt _ lk_Model_210) (fun _ h9 => h9) yg_40 d_Model_turtles_564 ?_
        refine lv_iload_n hx hb d_Model_turtles_567 rfl (lv_at hl 4 rfl) ?_
        obtain ⟨h_202, hm⟩ := ck_some hm
        refine va_iald hx hb hK hP 32 0 ya_40 rfl h_202 d_Model_turtles_568 ?_
        refine lv_icmp_ne (tgt := 576) hx hb d_Model_turtles_569 (by decide) (fun c_203 => ?_) (fun c_203 => ?_)
        · replace hm := if_f c_203 hm
          refine lv_iconst (v := 0) hx hb d_Model_turtles_576 (by decide) ?_
          obtain ⟨r_205, h_204, hm⟩ := ob0_some hm
          have hFc := x_free0 hS hA
          refine va_calll (va_runV (As := [.int 0]) (rest := []) ⟨hx, hb, hml, hown, hts⟩ (x_Model_truth l dC dI cI cJ cB adK adV adA h v s.heap.size n h_204) (cwV 1 hts (tw_GV tw_cons cw_Model_truth lk_Model_721 in_Model_truth sel_Model_truth ini_Model) rfl rfl rfl ⟨rfl, hd_Model_truth⟩ ⟨Nat.le_of_ble_eq_true rfl, Nat.le_of_ble_eq_true rfl⟩) (ypVr hK hP hS hE hFc yo_12 rfl) rfl rfl hl.1 rfl (lv_room (Nat.le_of_ble_eq_true rfl)) d_Model_turtles_577 ⟨Nat.le_of_ble_eq_true rfl, Nat.le_of_ble_eq_true rfl⟩) hS (fun q _ h => hFc q h) hFc (fun r9 u9 t9 H locs ht hvm e9 hB hz1 hk1 hS => ?_)
          have e9 : r_205 = r9 := e9
          subst e9
          replace hP := x_keep hP hk1
          clear hFc hk1 hz1 hvm hB ht
          obtain ⟨e1i, e1j, e1a, e1b, e3⟩ := re4m hm
          obtain ⟨hP, hD⟩ := y_eq e1i e1j e1a e1b hP hD
          exact W.lret hx hb hr (fun t9 ht hW => ⟨⟨_, (), rfl, e3.symm, by rw [ht]; exact hP, hD⟩, hS.F ht⟩) hS.2.2 d_Model_turtles_580
        · replace hm := if_t c_203 hm
          refine lv_iconst (v := 1) hx hb d_Model_turtles_572 (by decide) ?_
          refine lv_goto (tgt := 577) hx hb d_Model_turtles_573 (by decide) ?_
          obtain ⟨r_207, h_206, hm⟩ := ob0_some hm
          have hFc := x_free0 hS hA
          refine va_calll (va_runV (As := [.int 1]) (rest := []) ⟨hx, hb, hml, hown, hts⟩ (x_Model_truth l dC dI cI cJ cB adK adV adA h v s.heap.size n h_206) (cwV 1 hts (tw_GV tw_cons cw_Model_truth lk_Model_721 in_Model_truth sel_Model_truth ini_Model) rfl rfl rfl ⟨rfl, hd_Model_truth⟩ ⟨Nat.le_of_ble_eq_true rfl, Nat.le_of_ble_eq_true rfl⟩) (ypVr hK hP hS hE hFc yo_12 rfl) rfl rfl hl.1 rfl (lv_room (Nat.le_of_ble_eq_true rfl)) d_Model_turtles_577 ⟨Nat.le_of_ble_eq_true rfl, Nat.le_of_ble_eq_true rfl⟩) hS (fun q _ h => hFc q h) hFc (fun r9 u9 t9 H locs ht hvm e9 hB hz1 hk1 hS => ?_)
          have e9 : r_207 = r9 := e9
          subst e9
          replace hP := x_keep hP hk1
          clear hFc hk1 hz1 hvm hB ht
          obtain ⟨e1i, e1j, e1a, e1b, e3⟩ := re4m hm
          obtain ⟨hP, hD⟩ := y_eq e1i e1j e1a e1b hP hD
          exact W.lret hx hb hr (fun t9 ht hW => ⟨⟨_, (), rfl, e3.symm, by rw [ht]; exact hP, hD⟩, hS.F ht⟩) hS.2.2 d_Model_turtles_580

def m_Model_listed_b58 (n : Nat) (i : Nat → Int32) (j : Nat → Int64) (a : Nat → Nat → Int32) (b : Nat → Nat → Int64) (v1 : Int32) : Option ((Nat → Int32) × (Nat → Int64) × (Nat → Nat → Int32) × (Nat → Nat → Int64) × Int64) := ob1 (upd i 20 v1 : Nat → Int32) (fun i_1 => om (m_Model_fails n i_1 j a b (8 : Int32)) (fun i_3 j_4 a_5 b_6 r_7 => some (i_3, j_4, a_5, b_6, r_7)))
set_option maxHeartbeats 4000000 in
set_option maxRecDepth 100000 in
theorem lb_Model_listed_58 (l : Launch) (dC : Nat → ClassId) (dI : Nat → Nat → Nat) (cI cJ cB : ClassId) (adK adV adA : Nat → Nat) (h : Nat) (v : Nat → Nat) (n : Nat) {p : Program} {e : Env} {s : State} {m : MethodId} {args : Array Value} {below : List Frame} {meth : Method} {c : Code} {A : Nat → Prop} (hx : p.tables.exec = Jvm.exec) (hb : c.code = b_Model_listed) (hml : c.maxLocals = 5) (hown : s.vm.findClass R_Model = some m.cls) (hts : ∀ w ∈ w_Model_listed, w.before args s = true) (hK : va_K (dC, dI) classes [(cI, .int), (cJ, .long), (cB, .byte)] s) (hE : tw_E adK adV adA A s s.heap) (hA : ∀ q : Nat, s.heap.size ≤ q → A q) (hr : meth.sig.returnType = (some .long)) (hlocks : meth.locks = false) {i2 : Nat → Int32} {j2 : Nat → Int64} {a2 : Nat → Nat → Int32} {b2 : Nat → Nat → Int64} {r2 : Int64} (i : Nat → Int32) (j : Nat → Int64) (a : Nat → Nat → Int32) (b : Nat → Nat → Int64) (v1 : Int32) (hm : m_Model_listed_b58 n i j a b v1 = some (i2, j2, a2, b2, r2)) : ∀ (H : Heap) (locs : List Loc) (ls : Array Slot), va_P (dC, dI) classes (MW cI cJ cB h v i j a b) H → va_D A (MW cI cJ cB h v i j a b) → va_S A s.heap H locs → lv_has ls 5 [(0, .ref h), (1, .int v1)] → W p l e ({ frames := 4, cells := 0, slots := 0, locals := 87 } : Room) s m args below meth c H locs 0 0 (MQ below (va_Ql (xR r2) (yB dC dI cI cJ cB h v i2 j2 a2 b2 A) A) args s 0 0 A) (F0 m 58 ls []) := by
  have htt : ∀ w ∈ tw_T, w.before _ s = true := fun w h => hts w (List.mem_cons_of_mem _ h)
  intro H locs ls hP hD hS hl
  rw [m_Model_listed_b58] at hm
  refine lv_aload_n hx hb d_Model_listed_58 rfl (lv_at hl 0 rfl) ?_
  refine lv_iload_n hx hb d_Model_listed_59 rfl (lv_at hl 1 rfl) ?_
  refine va_put (D := (dC, dI)) (ci := 12) (v := .int v1) (ty := .int) (C := R_Model) (T := F_Model) (N := 127) hx hb htt iw_Model t_Model t_Model_ok n_Model hown hK hP hD hS 0 yo_12 rfl 20 (Nat.le_of_ble_eq_true rfl) (htt _ lk_Model_32) (fun _ h9 => h9) rfl (by decide +kernel) rfl rfl yl_20 d_Model_listed_60 (fun H locs hP hD hS => ?_)
  obtain ⟨i_1, ei_1⟩ : ∃ y9 : Nat → Int32, y9 = upd i 20 v1 := ⟨_, rfl⟩
  replace hm := ob1_at ei_1 hm
  obtain ⟨hP, hD⟩ := yw_20 ei_1 hP hD
  refine lv_aload_n hx hb d_Model_listed_63 rfl (lv_at hl 0 rfl) ?_
  refine lv_bipush (v := 8) hx hb d_Model_listed_64 (by decide) ?_
  obtain ⟨i_3, j_4, a_5, b_6, r_7, h_2, hm⟩ := om_some hm
  have hFc := x_free hD hS hA
  refine va_calll (va_runV (As := [.int 8]) (rest := []) ⟨hx, hb, hml, hown, hts⟩ (x_Model_fails l dC dI cI cJ cB adK adV adA h v H.size n h_2) (cwV 1 hts (tw_GV tw_cons cw_Model_fails lk_Model_596 in_Model_fails sel_Model_fails ini_Model) rfl rfl rfl ⟨rfl, hd_Model_fails⟩ ⟨Nat.le_of_ble_eq_true rfl, Nat.le_of_ble_eq_true rfl⟩) (ypV hK hP hD hS hE hFc yo_12 rfl) rfl rfl hl.1 rfl (lv_room (Nat.le_of_ble_eq_true rfl)) d_Model_listed_66 ⟨Nat.le_of_ble_eq_true rfl, Nat.le_of_ble_eq_true rfl⟩) hS (fun q _ h => hFc q h) hFc (fun r9 u9 t9 H locs ht hvm e9 hB hz1 hk1 hS => ?_)
  have e9 : r_7 = r9 := e9
  subst e9
  obtain ⟨hP, hD⟩ := y_aft hB ht hFc
  clear hFc hk1 hz1 hvm hB ht
  obtain ⟨e1i, e1j, e1a, e1b, e3⟩ := re4m hm
  obtain ⟨hP, hD⟩ := y_eq e1i e1j e1a e1b hP hD
  exact W.lret hx hb hr (fun t9 ht hW => ⟨⟨_, (), rfl, e3.symm, by rw [ht]; exact hP, hD⟩, hS.F ht⟩) hS.2.2 d_Model_listed_69
def m_Model_listed_b12 (n : Nat) : Nat → (Nat → Int32) → (Nat → Int64) → (Nat → Nat → Int32) → (Nat → Nat → Int64) → Int32 → Int32 → Int32 → Int32 → Option ((Nat → Int32) × (Nat → Int64) × (Nat → Nat → Int32) × (Nat → Nat → Int64) × Int64)
  | 0, _, _, _, _, _, _, _, _ => none
  | f + 1, i, j, a, b, v1, v2, v3, v4 => if ((i 20)) ≤ v4 then if ((600 : Int32)) < v3 then m_Model_listed_b58 n i j a b v1 else om (m_Model_makes n i j a b (v2 + 1)) (fun i_4 j_5 a_6 b_7 r_8 => if r_8 = ((0 : Int32)) then m_Model_listed_b58 n i_4 j_5 a_6 b_7 v1 else om (m_Model_newList n i_4 j_5 a_6 b_7 v2) (fun i_11 j_12 a_13 b_14 r_15 => some (i_11, j_12, a_13, b_14, r_15))) else ck v4 90000 (ob0 (m_Model_sizeOf n i j a b (b 10 v4.toNatClampNeg)) (fun r_18 => ob1 (v3 + r_18 : Int32) (fun x_19 => ob1 (v4 + 1 : Int32) (fun x_20 => m_Model_listed_b12 n f i j a b v1 v2 x_19 x_20))))
set_option maxHeartbeats 4000000 in
set_option maxRecDepth 100000 in
theorem lb_Model_listed_12 (l : Launch) (dC : Nat → ClassId) (dI : Nat → Nat → Nat) (cI cJ cB : ClassId) (adK adV adA : Nat → Nat) (h : Nat) (v : Nat → Nat) (n : Nat) {p : Program} {e : Env} {s : State} {m : MethodId} {args : Array Value} {below : List Frame} {meth : Method} {c : Code} {A : Nat → Prop} (hx : p.tables.exec = Jvm.exec) (hb : c.code = b_Model_listed) (hml : c.maxLocals = 5) (hown : s.vm.findClass R_Model = some m.cls) (hts : ∀ w ∈ w_Model_listed, w.before args s = true) (hK : va_K (dC, dI) classes [(cI, .int), (cJ, .long), (cB, .byte)] s) (hE : tw_E adK adV adA A s s.heap) (hA : ∀ q : Nat, s.heap.size ≤ q → A q) (hr : meth.sig.returnType = (some .long)) (hlocks : meth.locks = false) {i2 : Nat → Int32} {j2 : Nat → Int64} {a2 : Nat → Nat → Int32} {b2 : Nat → Nat → Int64} {r2 : Int64} : ∀ (f : Nat) (i : Nat → Int32) (j : Nat → Int64) (a : Nat → Nat → Int32) (b : Nat → Nat → Int64) (v1 : Int32) (v2 : Int32) (v3 : Int32) (v4 : Int32), m_Model_listed_b12 n f i j a b v1 v2 v3 v4 = some (i2, j2, a2, b2, r2) → ∀ (H : Heap) (locs : List Loc) (ls : Array Slot), va_P (dC, dI) classes (MW cI cJ cB h v i j a b) H → va_D A (MW cI cJ cB h v i j a b) → va_S A s.heap H locs → lv_has ls 5 [(0, .ref h), (1, .int v1), (2, .int v2), (3, .int v3), (4, .int v4)] → W p l e ({ frames := 4, cells := 0, slots := 0, locals := 87 } : Room) s m args below meth c H locs 0 0 (MQ below (va_Ql (xR r2) (yB dC dI cI cJ cB h v i2 j2 a2 b2 A) A) args s 0 0 A) (F0 m 12 ls []) := by
  have htt : ∀ w ∈ tw_T, w.before _ s = true := fun w h => hts w (List.mem_cons_of_mem _ h)
  intro f
  induction f with
  | zero =>
    intro i j a b v1 v2 v3 v4 hm
    rw [m_Model_listed_b12] at hm
    cases hm
  | succ f ih =>
    intro i j a b v1 v2 v3 v4 hm H locs ls hP hD hS hl
    rw [m_Model_listed_b12] at hm
    refine lv_iload hx hb d_Model_listed_12 (lv_at hl 4 rfl) ?_
    refine lv_aload_n hx hb d_Model_listed_14 rfl (lv_at hl 0 rfl) ?_
    refine va_get (D := (dC, dI)) (ci := 12) (v := .int (i 20)) (C := R_Model) (T := F_Model) (N := 127) hx hb htt iw_Model hown hK hP 0 yo_12 rfl 20 (Nat.le_of_ble_eq_true rfl) (htt _ lk_Model_32) (fun _ h9 => h9) yg_20 d_Model_listed_15 ?_
    refine lv_icmp_ge (tgt := 41) hx hb d_Model_listed_18 (by decide) (fun c_1 => ?_) (fun c_1 => ?_)
    · replace hm := if_t c_1 hm
      refine lv_iload_n hx hb d_Model_listed_41 rfl (lv_at hl 3 rfl) ?_
      refine lv_sipush (v := 600) hx hb d_Model_listed_42 (by decide) ?_
      refine lv_icmp_gt (tgt := 58) hx hb d_Model_listed_45 (by decide) (fun c_2 => ?_) (fun c_2 => ?_)
      · replace hm := if_t c_2 hm
        exact lb_Model_listed_58 l dC dI cI cJ cB adK adV adA h v n hx hb hml hown hts hK hE hA hr hlocks _ _ _ _ _ hm _ _ _ hP hD hS (lv_sub hl [0, 1] rfl)
      · replace hm := if_f c_2 hm
        refine lv_aload_n hx hb d_Model_listed_48 rfl (lv_at hl 0 rfl) ?_
        refine lv_iload_n hx hb d_Model_listed_49 rfl (lv_at hl 2 rfl) ?_
        refine lv_iconst (v := 1) hx hb d_Model_listed_50 (by decide) ?_
        refine lv_iadd hx hb d_Model_listed_51 ?_
        obtain ⟨i_4, j_5, a_6, b_7, r_8, h_3, hm⟩ := om_some hm
        have hFc := x_free hD hS hA
        refine va_calli (va_runV (As := [.int (v2 + 1)]) (rest := []) ⟨hx, hb, hml, hown, hts⟩ (x_Model_makes l dC dI cI cJ cB adK adV adA h v H.size n h_3) (cwV 1 hts (tw_GV tw_cons cw_Model_makes lk_Model_665 in_Model_makes sel_Model_makes ini_Model) rfl rfl rfl ⟨rfl, hd_Model_makes⟩ ⟨Nat.le_of_ble_eq_true rfl, Nat.le_of_ble_eq_true rfl⟩) (ypV hK hP hD hS hE hFc yo_12 rfl) rfl rfl hl.1 rfl (lv_room (Nat.le_of_ble_eq_true rfl)) d_Model_listed_52 ⟨Nat.le_of_ble_eq_true rfl, Nat.le_of_ble_eq_true rfl⟩) hS (fun q _ h => hFc q h) hFc (fun r9 u9 t9 H locs ht hvm e9 hB hz1 hk1 hS => ?_)
        have e9 : r_8 = r9 := e9
        subst e9
        obtain ⟨hP, hD⟩ := y_aft hB ht hFc
        clear hFc hk1 hz1 hvm hB ht
        refine lv_if_ne (tgt := 70) hx hb d_Model_listed_55 (by decide) (fun c_9 => ?_) (fun c_9 => ?_)
        · replace hm := if_f c_9 hm
          refine lv_aload_n hx hb d_Model_listed_70 rfl (lv_at hl 0 rfl) ?_
          refine lv_iload_n hx hb d_Model_listed_71 rfl (lv_at hl 2 rfl) ?_
          obtain ⟨i_11, j_12, a_13, b_14, r_15, h_10, hm⟩ := om_some hm
          have hFc := x_free hD hS hA
          refine va_calll (va_runV (As := [.int v2]) (rest := []) ⟨hx, hb, hml, hown, hts⟩ (x_Model_newList l dC dI cI cJ cB adK adV adA h v H.size n h_10) (cwV 1 hts (tw_GV tw_cons cw_Model_newList lk_Model_468 in_Model_newList sel_Model_newList ini_Model) rfl rfl rfl ⟨rfl, hd_Model_newList⟩ ⟨Nat.le_of_ble_eq_true rfl, Nat.le_of_ble_eq_true rfl⟩) (ypV hK hP hD hS hE hFc yo_12 rfl) rfl rfl hl.1 rfl (lv_room (Nat.le_of_ble_eq_true rfl)) d_Model_listed_72 ⟨Nat.le_of_ble_eq_true rfl, Nat.le_of_ble_eq_true rfl⟩) hS (fun q _ h => hFc q h) hFc (fun r9 u9 t9 H locs ht hvm e9 hB hz1 hk1 hS => ?_)
          have e9 : r_15 = r9 := e9
          subst e9
          obtain ⟨hP, hD⟩ := y_aft hB ht hFc
          clear hFc hk1 hz1 hvm hB ht
          obtain ⟨e1i, e1j, e1a, e1b, e3⟩ := re4m hm
          obtain ⟨hP, hD⟩ := y_eq e1i e1j e1a e1b hP hD
          exact W.lret hx hb hr (fun t9 ht hW => ⟨⟨_, (), rfl, e3.symm, by rw [ht]; exact hP, hD⟩, hS.F ht⟩) hS.2.2 d_Model_listed_75
        · replace hm := if_t c_9 hm
          exact lb_Model_listed_58 l dC dI cI cJ cB adK adV adA h v n hx hb hml hown hts hK hE hA hr hlocks _ _ _ _ _ hm _ _ _ hP hD hS (lv_sub hl [0, 1] rfl)
    · replace hm := if_f c_1 hm
      refine lv_iload_n hx hb d_Model_listed_21 rfl (lv_at hl 3 rfl) ?_
      refine lv_aload_n hx hb d_Model_listed_22 rfl (lv_at hl 0 rfl) ?_
      refine lv_aload_n hx hb d_Model_listed_23 rfl (lv_at hl 0 rfl) ?_
      refine va_get (D := (dC, dI)) (ci := 12) (v := .ref ((v 10))) (C := R_Model) (T := F_Model) (N := 127) hx hb htt iw_Model hown hK hP 0 yo_12 rfl 10 (Nat.le_of_ble_eq_true rfl) (htt _ lk_Model_35) (fun _ h9 => h9) yg_10 d_Model_listed_24 ?_
      refine lv_iload hx hb d_Model_listed_27 (lv_at hl 4 rfl) ?_
      obtain ⟨h_16, hm⟩ := ck_some hm
      refine va_lald hx hb hK hP 10 1 ya_10 rfl h_16 d_Model_listed_29 ?_
      obtain ⟨r_18, h_17, hm⟩ := ob0_some hm
      have hFc := x_free0 hS hA
      refine va_calli (va_runV (As := [.long (b 10 v4.toNatClampNeg)]) (rest := [.int v3]) ⟨hx, hb, hml, hown, hts⟩ (x_Model_sizeOf l dC dI cI cJ cB adK adV adA h v H.size n h_17) (cwV 1 hts (tw_GV tw_cons cw_Model_sizeOf lk_Model_38 in_Model_sizeOf sel_Model_sizeOf ini_Model) rfl rfl rfl ⟨rfl, hd_Model_sizeOf⟩ ⟨Nat.le_of_ble_eq_true rfl, Nat.le_of_ble_eq_true rfl⟩) (ypVr hK hP hS hE hFc yo_12 rfl) rfl rfl hl.1 rfl (lv_room (Nat.le_of_ble_eq_true rfl)) d_Model_listed_30 ⟨Nat.le_of_ble_eq_true rfl, Nat.le_of_ble_eq_true rfl⟩) hS (fun q _ h => hFc q h) hFc (fun r9 u9 t9 H locs ht hvm e9 hB hz1 hk1 hS => ?_)
      have e9 : r_18 = r9 := e9
      subst e9
      replace hP := x_keep hP hk1
      clear hFc hk1 hz1 hvm hB ht
      refine lv_iadd hx hb d_Model_listed_33 ?_
      refine lv_topi (fun x_19 ex_19 => ?_)
      replace hm := ob1_at ex_19 hm
      refine lv_istore_n (lv' := [(3, .int x_19), (0, .ref h), (1, .int v1), (2, .int v2), (4, .int v4)]) hx hb d_Model_listed_34 rfl hl (by decide) rfl (fun ls hl => ?_)
      obtain ⟨x_20, ex_20⟩ : ∃ y9 : Int32, y9 = v4 + 1 := ⟨_, rfl⟩
      replace hm := ob1_at ex_20 hm
      refine lv_iinc (v := x_20) (lv' := [(4, .int x_20), (3, .int x_19), (0, .ref h), (1, .int v1), (2, .int v2)]) hx hb d_Model_listed_35 hl (k := 4) rfl (by rw [ex_20]; rfl) (by decide) rfl (fun ls hl => ?_)
      refine lv_goto (tgt := 12) hx hb d_Model_listed_38 (by decide) ?_
      exact ih _ _ _ _ _ _ _ _ hm _ _ _ hP hD hS (lv_sub hl [2, 3, 4, 1, 0] rfl)
def m_Model_listed (n : Nat) (i : Nat → Int32) (j : Nat → Int64) (a : Nat → Nat → Int32) (b : Nat → Nat → Int64) (v1 : Int32) : Option ((Nat → Int32) × (Nat → Int64) × (Nat → Nat → Int32) × (Nat → Nat → Int64) × Int64) := ob1 ((i 20) - v1 : Int32) (fun x_1 => m_Model_listed_b12 n n i j a b v1 x_1 (1 : Int32) v1)
set_option maxHeartbeats 4000000 in
set_option maxRecDepth 100000 in
theorem x_Model_listed (l : Launch) (dC : Nat → ClassId) (dI : Nat → Nat → Nat) (cI cJ cB : ClassId) (adK adV adA : Nat → Nat) (h : Nat) (v : Nat → Nat) (sz : Nat) (n : Nat) {i : Nat → Int32} {j : Nat → Int64} {a : Nat → Nat → Int32} {b : Nat → Nat → Int64} {v1 : Int32} {i2 : Nat → Int32} {j2 : Nat → Int64} {a2 : Nat → Nat → Int32} {b2 : Nat → Nat → Int64} {r2 : Int64} (hm : m_Model_listed n i j a b v1 = some (i2, j2, a2, b2, r2)) : Met l y_Model_listed w_Model_listed ({ frames := 4, cells := 0, slots := 0, locals := 87 } : Room) (va_Pc [.ref h, .int v1] (yE dC dI cI cJ cB adK adV adA h v i j a b sz)) (va_Ql (xR r2) (yB dC dI cI cJ cB h v i2 j2 a2 b2 (va_A (MW cI cJ cB h v i j a b) sz)) (va_A (MW cI cJ cB h v i j a b) sz)) 0 0 ((va_A (MW cI cJ cB h v i j a b) sz)) := by
  refine Met.ofW (cc := b_Model_listed) (maxL := 5) (ret := (some .long)) (by decide) rfl ?_
  intro p e s m args below meth c s₁ B hml hv
  obtain ⟨rfl, hsz, hP, hK, hE, hD0⟩ := hv
  have hx := B.exec
  have hb := B.bytes
  have hr := B.returns
  have hts := atoms_spec (ws := w_Model_listed) B.pre
  have htt : ∀ w ∈ tw_T, w.before _ s = true := fun w h => hts w (List.mem_cons_of_mem _ h)
  have hown : s.vm.findClass R_Model = some m.cls := findClass_of_methodNamed B.named
  have hlocks := B.notSynchronized
  subst hsz
  have hD := hD0.self (sz := s.heap.size)
  generalize hAe : (va_A (MW cI cJ cB h v i j a b) s.heap.size) = A at hD hE ⊢
  have hA : ∀ q : Nat, s.heap.size ≤ q → A q := fun q h => by rw [← hAe]; exact Or.inr h
  have hS : va_S A s.heap s.heap [] := va_S.rf
  have hl := lv_entry ([.ref h, .int v1]) (n := 5) (Nat.le_of_ble_eq_true rfl)
  rw [lg_entry_eq]
  generalize (lg_sl ([.ref h, .int v1]) ++ List.replicate (5 - (lg_sl ([.ref h, .int v1])).length) Slot.unset).toArray = ls at hl ⊢
  have hl : lv_has ls 5 [(0, .ref h), (1, .int v1)] := hl
  rw [m_Model_listed] at hm
  refine lv_aload_n hx hb d_Model_listed_0 rfl (lv_at hl 0 rfl) ?_
  refine va_get (D := (dC, dI)) (ci := 12) (v := .int (i 20)) (C := R_Model) (T := F_Model) (N := 127) hx hb htt iw_Model hown hK hP 0 yo_12 rfl 20 (Nat.le_of_ble_eq_true rfl) (htt _ lk_Model_32) (fun _ h9 => h9) yg_20 d_Model_listed_1 ?_
  refine lv_iload_n hx hb d_Model_listed_4 rfl (lv_at hl 1 rfl) ?_
  refine lv_isub hx hb d_Model_listed_5 ?_
  refine lv_topi (fun x_1 ex_1 => ?_)
  replace hm := ob1_at ex_1 hm
  refine lv_istore_n (lv' := [(2, .int x_1), (0, .ref h), (1, .int v1)]) hx hb d_Model_listed_6 rfl hl (by decide) rfl (fun ls hl => ?_)
  refine lv_iconst (v := 1) hx hb d_Model_listed_7 (by decide) ?_
  refine lv_istore_n (lv' := [(3, .int 1), (2, .int x_1), (0, .ref h), (1, .int v1)]) hx hb d_Model_listed_8 rfl hl (by decide) rfl (fun ls hl => ?_)
  refine lv_iload_n hx hb d_Model_listed_9 rfl (lv_at hl 3 rfl) ?_
  refine lv_istore (lv' := [(4, .int v1), (3, .int 1), (2, .int x_1), (0, .ref h), (1, .int v1)]) hx hb d_Model_listed_10 hl (by decide) rfl (fun ls hl => ?_)
  exact lb_Model_listed_12 l dC dI cI cJ cB adK adV adA h v n hx hb hml hown hts hK hE hA hr hlocks n _ _ _ _ _ _ _ _ hm _ _ _ hP hD hS (lv_sub hl [3, 4, 2, 1, 0] rfl)

def m_Model_defined_b249 (n : Nat) : Nat → (Nat → Int32) → (Nat → Int64) → (Nat → Nat → Int32) → (Nat → Nat → Int64) → Int64 → Int64 → Int32 → Int32 → Option ((Nat → Int32) × (Nat → Int64) × (Nat → Nat → Int32) × (Nat → Nat → Int64) × Int64)
  | 0, _, _, _, _, _, _, _, _ => none
  | f + 1, i, j, a, b, v2, v5, v7, v8 => ob0 (m_Model_size n i j a b v5) (fun r_2 => if r_2 ≤ v8 then ob0 (m_Model_member n i j a b v2 (1 : Int32)) (fun r_5 => ck v7 40 (ob1 (svl b 32 v7.toNatClampNeg r_5 : Nat → Nat → Int64) (fun b_7 => some (i, j, a, b_7, 3)))) else ob0 (m_Model_member n i j a b v5 v8) (fun r_9 => ob0 (m_Model_what n r_9) (fun r_11 => ck (((5 * v7) + v8)) 200 (ob1 (sv a 31 ((5 * v7) + v8).toNatClampNeg r_11 : Nat → Nat → Int32) (fun a_13 => ob1 (v8 + 1 : Int32) (fun x_14 => m_Model_defined_b249 n f i j a_13 b v2 v5 v7 x_14))))))
set_option maxHeartbeats 4000000 in
set_option maxRecDepth 100000 in
theorem lb_Model_defined_249 (l : Launch) (dC : Nat → ClassId) (dI : Nat → Nat → Nat) (cI cJ cB : ClassId) (adK adV adA : Nat → Nat) (h : Nat) (v : Nat → Nat) (n : Nat) {p : Program} {e : Env} {s : State} {m : MethodId} {args : Array Value} {below : List Frame} {meth : Method} {c : Code} {A : Nat → Prop} (hx : p.tables.exec = Jvm.exec) (hb : c.code = b_Model_defined) (hml : c.maxLocals = 9) (hown : s.vm.findClass R_Model = some m.cls) (hts : ∀ w ∈ w_Model_defined, w.before args s = true) (hK : va_K (dC, dI) classes [(cI, .int), (cJ, .long), (cB, .byte)] s) (hE : tw_E adK adV adA A s s.heap) (hA : ∀ q : Nat, s.heap.size ≤ q → A q) (hr : meth.sig.returnType = (some .long)) (hlocks : meth.locks = false) {i2 : Nat → Int32} {j2 : Nat → Int64} {a2 : Nat → Nat → Int32} {b2 : Nat → Nat → Int64} {r2 : Int64} : ∀ (f : Nat) (i : Nat → Int32) (j : Nat → Int64) (a : Nat → Nat → Int32) (b : Nat → Nat → Int64) (v2 : Int64) (v5 : Int64) (v7 : Int32) (v8 : Int32), m_Model_defined_b249 n f i j a b v2 v5 v7 v8 = some (i2, j2, a2, b2, r2) → ∀ (H : Heap) (locs : List Loc) (ls : Array Slot), va_P (dC, dI) classes (MW cI cJ cB h v i j a b) H → va_D A (MW cI cJ cB h v i j a b) → va_S A s.heap H locs → lv_has ls 9 [(0, .ref h), (2, .long v2), (5, .long v5), (7, .int v7), (8, .int v8)] → W p l e ({ frames := 6, cells := 0, slots := 0, locals := 134 } : Room) s m args below meth c H locs 0 0 (MQ below (va_Ql (xR r2) (yB dC dI cI cJ cB h v i2 j2 a2 b2 A) A) args s 0 0 A) (F0 m 249 ls []) := by
  have htt : ∀ w ∈ tw_T, w.before _ s = true := fun w h => hts w (List.mem_cons_of_mem _ h)
  intro f
  induction f with
  | zero =>
    intro i j a b v2 v5 v7 v8 hm
    rw [m_Model_defined_b249] at hm
    cases hm
  | succ f ih =>
    intro i j a b v2 v5 v7 v8 hm H locs ls hP hD hS hl
    rw [m_Model_defined_b249] at hm
    refine lv_iload hx hb d_Model_defined_249 (lv_at hl 4 rfl) ?_
    refine lv_aload_n hx hb d_Model_defined_251 rfl (lv_at hl 0 rfl) ?_
    refine lv_lload hx hb d_Model_defined_252 (lv_at hl 2 rfl) ?_
    obtain ⟨r_2, h_1, hm⟩ := ob0_some hm
    have hFc := x_free0 hS hA
    refine va_calli (va_runV (As := [.long v5]) (rest := [.int v8]) ⟨hx, hb, hml, hown, hts⟩ (x_Model_size l dC dI cI cJ cB adK adV adA h v H.size n h_1) (cwV 1 hts (tw_GV tw_cons cw_Model_size lk_Model_98 in_Model_size sel_Model_size ini_Model) rfl rfl rfl ⟨rfl, hd_Model_size⟩ ⟨Nat.le_of_ble_eq_true rfl, Nat.le_of_ble_eq_true rfl⟩) (ypVr hK hP hS hE hFc yo_12 rfl) rfl rfl hl.1 rfl (lv_room (Nat.le_of_ble_eq_true rfl)) d_Model_defined_254 ⟨Nat.le_of_ble_eq_true rfl, Nat.le_of_ble_eq_true rfl⟩) hS (fun q _ h => hFc q h) hFc (fun r9 u9 t9 H locs ht hvm e9 hB hz1 hk1 hS => ?_)
    have e9 : r_2 = r9 := e9
    subst e9
    replace hP := x_keep hP hk1
    clear hFc hk1 hz1 hvm hB ht
    refine lv_icmp_ge (tgt := 289) hx hb d_Model_defined_257 (by decide) (fun c_3 => ?_) (fun c_3 => ?_)
    · replace hm := if_t c_3 hm
      refine lv_aload_n hx hb d_Model_defined_289 rfl (lv_at hl 0 rfl) ?_
      refine va_get (D := (dC, dI)) (ci := 12) (v := .ref ((v 32))) (C := R_Model) (T := F_Model) (N := 127) hx hb htt iw_Model hown hK hP 0 yo_12 rfl 32 (Nat.le_of_ble_eq_true rfl) (htt _ lk_Model_192) (fun _ h9 => h9) yg_32 d_Model_defined_290 ?_
      refine lv_iload hx hb d_Model_defined_293 (lv_at hl 3 rfl) ?_
      refine lv_aload_n hx hb d_Model_defined_295 rfl (lv_at hl 0 rfl) ?_
      refine lv_lload_n hx hb d_Model_defined_296 rfl (lv_at hl 1 rfl) ?_
      refine lv_iconst (v := 1) hx hb d_Model_defined_297 (by decide) ?_
      obtain ⟨r_5, h_4, hm⟩ := ob0_some hm
      have hFc := x_free0 hS hA
      refine va_calll (va_runV (As := [.long v2, .int 1]) (rest := [.int v7, .ref ((v 32))]) ⟨hx, hb, hml, hown, hts⟩ (x_Model_member l dC dI cI cJ cB adK adV adA h v H.size n h_4) (cwV 2 hts (tw_GV tw_cons cw_Model_member lk_Model_101 in_Model_member sel_Model_member ini_Model) rfl rfl rfl ⟨rfl, hd_Model_member⟩ ⟨Nat.le_of_ble_eq_true rfl, Nat.le_of_ble_eq_true rfl⟩) (ypVr hK hP hS hE hFc yo_12 rfl) rfl rfl hl.1 rfl (lv_room (Nat.le_of_ble_eq_true rfl)) d_Model_defined_298 ⟨Nat.le_of_ble_eq_true rfl, Nat.le_of_ble_eq_true rfl⟩) hS (fun q _ h => hFc q h) hFc (fun r9 u9 t9 H locs ht hvm e9 hB hz1 hk1 hS => ?_)
      have e9 : r_5 = r9 := e9
      subst e9
      replace hP := x_keep hP hk1
      clear hFc hk1 hz1 hvm hB ht
      obtain ⟨h_6, hm⟩ := ck_some hm
      refine va_last hx hb hK hP hD hS 26 1 ya_32 rfl h_6 d_Model_defined_301 (fun H locs hP hD hS => ?_)
      obtain ⟨b_7, eb_7⟩ : ∃ y9 : Nat → Nat → Int64, y9 = svl b 32 v7.toNatClampNeg r_5 := ⟨_, rfl⟩
      replace hm := ob1_at eb_7 hm
      obtain ⟨hP, hD⟩ := yv_32 eb_7 hP hD
      refine lv_ldc2 (v := 3) hx hb hown (htt _ lk_Model_7) d_Model_defined_302 ?_
      obtain ⟨e1i, e1j, e1a, e1b, e3⟩ := re4m hm
      obtain ⟨hP, hD⟩ := y_eq e1i e1j e1a e1b hP hD
      exact W.lret hx hb hr (fun t9 ht hW => ⟨⟨_, (), rfl, e3.symm, by rw [ht]; exact hP, hD⟩, hS.F ht⟩) hS.2.2 d_Model_defined_305
    · replace hm := if_f c_3 hm
      refine lv_aload_n hx hb d_Model_defined_260 rfl (lv_at hl 0 rfl) ?_
      refine va_get (D := (dC, dI)) (ci := 12) (v := .ref ((v 31))) (C := R_Model) (T := F_Model) (N := 127) hx hb htt iw_Model hown hK hP 0 yo_12 rfl 31 (Nat.le_of_ble_eq_true rfl) (htt _ lk_Model_189) (fun _ h9 => h9) yg_31 d_Model_defined_261 ?_
      refine lv_iconst (v := 5) hx hb d_Model_defined_264 (by decide) ?_
      refine lv_iload hx hb d_Model_defined_265 (lv_at hl 3 rfl) ?_
      refine lv_imul hx hb d_Model_defined_267 ?_
      refine lv_iload hx hb d_Model_defined_268 (lv_at hl 4 rfl) ?_
      refine lv_iadd hx hb d_Model_defined_270 ?_
      refine lv_aload_n hx hb d_Model_defined_271 rfl (lv_at hl 0 rfl) ?_
      refine lv_lload hx hb d_Model_defined_272 (lv_at hl 2 rfl) ?_
      refine lv_iload hx hb d_Model_defined_274 (lv_at hl 4 rfl) ?_
      obtain ⟨r_9, h_8, hm⟩ := ob0_some hm
      have hFc := x_free0 hS hA
      refine va_calll (va_runV (As := [.long v5, .int v8]) (rest := [.int ((5 * v7) + v8), .ref ((v 31))]) ⟨hx, hb, hml, hown, hts⟩ (x_Model_member l dC dI cI cJ cB adK adV adA h v H.size n h_8) (cwV 2 hts (tw_GV tw_cons cw_Model_member lk_Model_101 in_Model_member sel_Model_member ini_Model) rfl rfl rfl ⟨rfl, hd_Model_member⟩ ⟨Nat.le_of_ble_eq_true rfl, Nat.le_of_ble_eq_true rfl⟩) (ypVr hK hP hS hE hFc yo_12 rfl) rfl rfl hl.1 rfl (lv_room (Nat.le_of_ble_eq_true rfl)) d_Model_defined_276 ⟨Nat.le_of_ble_eq_true rfl, Nat.le_of_ble_eq_true rfl⟩) hS (fun q _ h => hFc q h) hFc (fun r9 u9 t9 H locs ht hvm e9 hB hz1 hk1 hS => ?_)
      have e9 : r_9 = r9 := e9
      subst e9
      replace hP := x_keep hP hk1
      clear hFc hk1 hz1 hvm hB ht
      obtain ⟨r_11, h_10, hm⟩ := ob0_some hm
      have hFc := x_free0 hS hA
      refine va_calli (va_runS (As := [.long r_9]) (rest := [.int ((5 * v7) + v8), .ref ((v 31))]) ⟨hx, hb, hml, hown, hts⟩ (x_Model_what l H.size n h_10) (va_cwS 1 hts (tw_GS tw_cons cw_Model_what lk_Model_64 st_Model_what ini_Model) rfl rfl rfl hd_Model_what ⟨Nat.le_of_ble_eq_true rfl, Nat.le_of_ble_eq_true rfl⟩) xpS0 rfl rfl hl.1 rfl (lv_room (Nat.le_of_ble_eq_true rfl)) d_Model_defined_279 ⟨Nat.le_of_ble_eq_true rfl, Nat.le_of_ble_eq_true rfl⟩) hS (fun q _ h => hFc q h) hFc (fun r9 u9 t9 H locs ht hvm e9 hB hz1 hk1 hS => ?_)
      have e9 : r_11 = r9 := e9
      subst e9
      replace hP := x_keep hP hk1
      clear hFc hk1 hz1 hvm hB ht
      obtain ⟨h_12, hm⟩ := ck_some hm
      refine va_iast hx hb hK hP hD hS 25 0 ya_31 rfl h_12 d_Model_defined_282 (fun H locs hP hD hS => ?_)
      obtain ⟨a_13, ea_13⟩ : ∃ y9 : Nat → Nat → Int32, y9 = sv a 31 ((5 * v7) + v8).toNatClampNeg r_11 := ⟨_, rfl⟩
      replace hm := ob1_at ea_13 hm
      obtain ⟨hP, hD⟩ := yv_31 ea_13 hP hD
      obtain ⟨x_14, ex_14⟩ : ∃ y9 : Int32, y9 = v8 + 1 := ⟨_, rfl⟩
      replace hm := ob1_at ex_14 hm
      refine lv_iinc (v := x_14) (lv' := [(8, .int x_14), (0, .ref h), (2, .long v2), (5, .long v5), (7, .int v7)]) hx hb d_Model_defined_283 hl (k := 4) rfl (by rw [ex_14]; rfl) (by decide) rfl (fun ls hl => ?_)
      refine lv_goto (tgt := 249) hx hb d_Model_defined_286 (by decide) ?_
      exact ih _ _ _ _ _ _ _ _ hm _ _ _ hP hD hS (lv_sub hl [1, 2, 3, 4, 0] rfl)
def m_Model_defined_b226 (n : Nat) (i : Nat → Int32) (j : Nat → Int64) (a : Nat → Nat → Int32) (b : Nat → Nat → Int64) (v1 : Int32) (v2 : Int64) (v5 : Int64) : Option ((Nat → Int32) × (Nat → Int64) × (Nat → Nat → Int32) × (Nat → Nat → Int64) × Int64) := om (m_Model_tell n i j a b v1) (fun i_2 j_3 a_4 b_5 r_6 => ob0 (m_Model_size n i_2 j_3 a_4 b_5 v5) (fun r_8 => ck r_6 40 (ob1 (sv a_4 30 r_6.toNatClampNeg r_8 : Nat → Nat → Int32) (fun a_10 => m_Model_defined_b249 n n i_2 j_3 a_10 b_5 v2 v5 r_6 (0 : Int32)))))
set_option maxHeartbeats 4000000 in
set_option maxRecDepth 100000 in
theorem lb_Model_defined_226 (l : Launch) (dC : Nat → ClassId) (dI : Nat → Nat → Nat) (cI cJ cB : ClassId) (adK adV adA : Nat → Nat) (h : Nat) (v : Nat → Nat) (n : Nat) {p : Program} {e : Env} {s : State} {m : MethodId} {args : Array Value} {below : List Frame} {meth : Method} {c : Code} {A : Nat → Prop} (hx : p.tables.exec = Jvm.exec) (hb : c.code = b_Model_defined) (hml : c.maxLocals = 9) (hown : s.vm.findClass R_Model = some m.cls) (hts : ∀ w ∈ w_Model_defined, w.before args s = true) (hK : va_K (dC, dI) classes [(cI, .int), (cJ, .long), (cB, .byte)] s) (hE : tw_E adK adV adA A s s.heap) (hA : ∀ q : Nat, s.heap.size ≤ q → A q) (hr : meth.sig.returnType = (some .long)) (hlocks : meth.locks = false) {i2 : Nat → Int32} {j2 : Nat → Int64} {a2 : Nat → Nat → Int32} {b2 : Nat → Nat → Int64} {r2 : Int64} (i : Nat → Int32) (j : Nat → Int64) (a : Nat → Nat → Int32) (b : Nat → Nat → Int64) (v1 : Int32) (v2 : Int64) (v5 : Int64) (hm : m_Model_defined_b226 n i j a b v1 v2 v5 = some (i2, j2, a2, b2, r2)) : ∀ (H : Heap) (locs : List Loc) (ls : Array Slot), va_P (dC, dI) classes (MW cI cJ cB h v i j a b) H → va_D A (MW cI cJ cB h v i j a b) → va_S A s.heap H locs → lv_has ls 9 [(0, .ref h), (1, .int v1), (2, .long v2), (5, .long v5)] → W p l e ({ frames := 6, cells := 0, slots := 0, locals := 134 } : Room) s m args below meth c H locs 0 0 (MQ below (va_Ql (xR r2) (yB dC dI cI cJ cB h v i2 j2 a2 b2 A) A) args s 0 0 A) (F0 m 226 ls []) := by
  have htt : ∀ w ∈ tw_T, w.before _ s = true := fun w h => hts w (List.mem_cons_of_mem _ h)
  intro H locs ls hP hD hS hl
  rw [m_Model_defined_b226] at hm
  refine lv_aload_n hx hb d_Model_defined_226 rfl (lv_at hl 0 rfl) ?_
  refine lv_iload_n hx hb d_Model_defined_227 rfl (lv_at hl 1 rfl) ?_
  obtain ⟨i_2, j_3, a_4, b_5, r_6, h_1, hm⟩ := om_some hm
  have hFc := x_free hD hS hA
  refine va_calli (va_runV (As := [.int v1]) (rest := []) ⟨hx, hb, hml, hown, hts⟩ (x_Model_tell l dC dI cI cJ cB adK adV adA h v H.size n h_1) (cwV 1 hts (tw_GV tw_cons cw_Model_tell lk_Model_501 in_Model_tell sel_Model_tell ini_Model) rfl rfl rfl ⟨rfl, hd_Model_tell⟩ ⟨Nat.le_of_ble_eq_true rfl, Nat.le_of_ble_eq_true rfl⟩) (ypV hK hP hD hS hE hFc yo_12 rfl) rfl rfl hl.1 rfl (lv_room (Nat.le_of_ble_eq_true rfl)) d_Model_defined_228 ⟨Nat.le_of_ble_eq_true rfl, Nat.le_of_ble_eq_true rfl⟩) hS (fun q _ h => hFc q h) hFc (fun r9 u9 t9 H locs ht hvm e9 hB hz1 hk1 hS => ?_)
  have e9 : r_6 = r9 := e9
  subst e9
  obtain ⟨hP, hD⟩ := y_aft hB ht hFc
  clear hFc hk1 hz1 hvm hB ht
  refine lv_istore (lv' := [(7, .int r_6), (0, .ref h), (1, .int v1), (2, .long v2), (5, .long v5)]) hx hb d_Model_defined_231 hl (by decide) rfl (fun ls hl => ?_)
  refine lv_aload_n hx hb d_Model_defined_233 rfl (lv_at hl 1 rfl) ?_
  refine va_get (D := (dC, dI)) (ci := 12) (v := .ref ((v 30))) (C := R_Model) (T := F_Model) (N := 127) hx hb htt iw_Model hown hK hP 0 yo_12 rfl 30 (Nat.le_of_ble_eq_true rfl) (htt _ lk_Model_186) (fun _ h9 => h9) yg_30 d_Model_defined_234 ?_
  refine lv_iload hx hb d_Model_defined_237 (lv_at hl 0 rfl) ?_
  refine lv_aload_n hx hb d_Model_defined_239 rfl (lv_at hl 1 rfl) ?_
  refine lv_lload hx hb d_Model_defined_240 (lv_at hl 4 rfl) ?_
  obtain ⟨r_8, h_7, hm⟩ := ob0_some hm
  have hFc := x_free0 hS hA
  refine va_calli (va_runV (As := [.long v5]) (rest := [.int r_6, .ref ((v 30))]) ⟨hx, hb, hml, hown, hts⟩ (x_Model_size l dC dI cI cJ cB adK adV adA h v H.size n h_7) (cwV 1 hts (tw_GV tw_cons cw_Model_size lk_Model_98 in_Model_size sel_Model_size ini_Model) rfl rfl rfl ⟨rfl, hd_Model_size⟩ ⟨Nat.le_of_ble_eq_true rfl, Nat.le_of_ble_eq_true rfl⟩) (ypVr hK hP hS hE hFc yo_12 rfl) rfl rfl hl.1 rfl (lv_room (Nat.le_of_ble_eq_true rfl)) d_Model_defined_242 ⟨Nat.le_of_ble_eq_true rfl, Nat.le_of_ble_eq_true rfl⟩) hS (fun q _ h => hFc q h) hFc (fun r9 u9 t9 H locs ht hvm e9 hB hz1 hk1 hS => ?_)
  have e9 : r_8 = r9 := e9
  subst e9
  replace hP := x_keep hP hk1
  clear hFc hk1 hz1 hvm hB ht
  obtain ⟨h_9, hm⟩ := ck_some hm
  refine va_iast hx hb hK hP hD hS 24 0 ya_30 rfl h_9 d_Model_defined_245 (fun H locs hP hD hS => ?_)
  obtain ⟨a_10, ea_10⟩ : ∃ y9 : Nat → Nat → Int32, y9 = sv a_4 30 r_6.toNatClampNeg r_8 := ⟨_, rfl⟩
  replace hm := ob1_at ea_10 hm
  obtain ⟨hP, hD⟩ := yv_30 ea_10 hP hD
  refine lv_iconst (v := 0) hx hb d_Model_defined_246 (by decide) ?_
  refine lv_istore (lv' := [(8, .int 0), (7, .int r_6), (0, .ref h), (1, .int v1), (2, .long v2), (5, .long v5)]) hx hb d_Model_defined_247 hl (by decide) rfl (fun ls hl => ?_)
  exact lb_Model_defined_249 l dC dI cI cJ cB adK adV adA h v n hx hb hml hown hts hK hE hA hr hlocks n _ _ _ _ _ _ _ _ hm _ _ _ hP hD hS (lv_sub hl [2, 4, 5, 1, 0] rfl)
def m_Model_defined_b190 (n : Nat) (i : Nat → Int32) (j : Nat → Int64) (a : Nat → Nat → Int32) (b : Nat → Nat → Int64) (v1 : Int32) (v2 : Int64) (v4 : Int32) (v5 : Int64) : Option ((Nat → Int32) × (Nat → Int64) × (Nat → Nat → Int32) × (Nat → Nat → Int64) × Int64) := if v4 = ((0 : Int32)) then om (m_Model_fails n i j a b (3 : Int32)) (fun i_13 j_14 a_15 b_16 r_17 => some (i_13, j_14, a_15, b_16, r_17)) else ob0 (m_Model_procedureOf n i j a b v1) (fun r_3 => if r_3 = ((-1 : Int32)) then if ((i 33)) = ((40 : Int32)) then om (m_Model_fails n i j a b (8 : Int32)) (fun i_7 j_8 a_9 b_10 r_11 => some (i_7, j_8, a_9, b_10, r_11)) else m_Model_defined_b226 n i j a b v1 v2 v5 else m_Model_defined_b226 n i j a b v1 v2 v5)
set_option maxHeartbeats 4000000 in
set_option maxRecDepth 100000 in
theorem lb_Model_defined_190 (l : Launch) (dC : Nat → ClassId) (dI : Nat → Nat → Nat) (cI cJ cB : ClassId) (adK adV adA : Nat → Nat) (h : Nat) (v : Nat → Nat) (n : Nat) {p : Program} {e : Env} {s : State} {m : MethodId} {args : Array Value} {below : List Frame} {meth : Method} {c : Code} {A : Nat → Prop} (hx : p.tables.exec = Jvm.exec) (hb : c.code = b_Model_defined) (hml : c.maxLocals = 9) (hown : s.vm.findClass R_Model = some m.cls) (hts : ∀ w ∈ w_Model_defined, w.before args s = true) (hK : va_K (dC, dI) classes [(cI, .int), (cJ, .long), (cB, .byte)] s) (hE : tw_E adK adV adA A s s.heap) (hA : ∀ q : Nat, s.heap.size ≤ q → A q) (hr : meth.sig.returnType = (some .long)) (hlocks : meth.locks = false) {i2 : Nat → Int32} {j2 : Nat → Int64} {a2 : Nat → Nat → Int32} {b2 : Nat → Nat → Int64} {r2 : Int64} (i : Nat → Int32) (j : Nat → Int64) (a : Nat → Nat → Int32) (b : Nat → Nat → Int64) (v1 : Int32) (v2 : Int64) (v4 : Int32) (v5 : Int64) (hm : m_Model_defined_b190 n i j a b v1 v2 v4 v5 = some (i2, j2, a2, b2, r2)) : ∀ (H : Heap) (locs : List Loc) (ls : Array Slot), va_P (dC, dI) classes (MW cI cJ cB h v i j a b) H → va_D A (MW cI cJ cB h v i j a b) → va_S A s.heap H locs → lv_has ls 9 [(0, .ref h), (1, .int v1), (2, .long v2), (4, .int v4), (5, .long v5)] → W p l e ({ frames := 6, cells := 0, slots := 0, locals := 134 } : Room) s m args below meth c H locs 0 0 (MQ below (va_Ql (xR r2) (yB dC dI cI cJ cB h v i2 j2 a2 b2 A) A) args s 0 0 A) (F0 m 190 ls []) := by
  have htt : ∀ w ∈ tw_T, w.before _ s = true := fun w h => hts w (List.mem_cons_of_mem _ h)
  intro H locs ls hP hD hS hl
  rw [m_Model_defined_b190] at hm
  refine lv_iload hx hb d_Model_defined_190 (lv_at hl 3 rfl) ?_
  refine lv_if_ne (tgt := 201) hx hb d_Model_defined_192 (by decide) (fun c_1 => ?_) (fun c_1 => ?_)
  · replace hm := if_f c_1 hm
    refine lv_aload_n hx hb d_Model_defined_201 rfl (lv_at hl 0 rfl) ?_
    refine lv_iload_n hx hb d_Model_defined_202 rfl (lv_at hl 1 rfl) ?_
    obtain ⟨r_3, h_2, hm⟩ := ob0_some hm
    have hFc := x_free0 hS hA
    refine va_calli (va_runV (As := [.int v1]) (rest := []) ⟨hx, hb, hml, hown, hts⟩ (x_Model_procedureOf l dC dI cI cJ cB adK adV adA h v H.size n h_2) (cwV 1 hts (tw_GV tw_cons cw_Model_procedureOf lk_Model_488 in_Model_procedureOf sel_Model_procedureOf ini_Model) rfl rfl rfl ⟨rfl, hd_Model_procedureOf⟩ ⟨Nat.le_of_ble_eq_true rfl, Nat.le_of_ble_eq_true rfl⟩) (ypVr hK hP hS hE hFc yo_12 rfl) rfl rfl hl.1 rfl (lv_room (Nat.le_of_ble_eq_true rfl)) d_Model_defined_203 ⟨Nat.le_of_ble_eq_true rfl, Nat.le_of_ble_eq_true rfl⟩) hS (fun q _ h => hFc q h) hFc (fun r9 u9 t9 H locs ht hvm e9 hB hz1 hk1 hS => ?_)
    have e9 : r_3 = r9 := e9
    subst e9
    replace hP := x_keep hP hk1
    clear hFc hk1 hz1 hvm hB ht
    refine lv_iconst (v := -1) hx hb d_Model_defined_206 (by decide) ?_
    refine lv_icmp_ne (tgt := 226) hx hb d_Model_defined_207 (by decide) (fun c_4 => ?_) (fun c_4 => ?_)
    · replace hm := if_f c_4 hm
      exact lb_Model_defined_226 l dC dI cI cJ cB adK adV adA h v n hx hb hml hown hts hK hE hA hr hlocks _ _ _ _ _ _ _ hm _ _ _ hP hD hS (lv_sub hl [0, 1, 2, 4] rfl)
    · replace hm := if_t c_4 hm
      refine lv_aload_n hx hb d_Model_defined_210 rfl (lv_at hl 0 rfl) ?_
      refine va_get (D := (dC, dI)) (ci := 12) (v := .int (i 33)) (C := R_Model) (T := F_Model) (N := 127) hx hb htt iw_Model hown hK hP 0 yo_12 rfl 33 (Nat.le_of_ble_eq_true rfl) (htt _ lk_Model_344) (fun _ h9 => h9) yg_33 d_Model_defined_211 ?_
      refine lv_bipush (v := 40) hx hb d_Model_defined_214 (by decide) ?_
      refine lv_icmp_ne (tgt := 226) hx hb d_Model_defined_216 (by decide) (fun c_5 => ?_) (fun c_5 => ?_)
      · replace hm := if_f c_5 hm
        exact lb_Model_defined_226 l dC dI cI cJ cB adK adV adA h v n hx hb hml hown hts hK hE hA hr hlocks _ _ _ _ _ _ _ hm _ _ _ hP hD hS (lv_sub hl [0, 1, 2, 4] rfl)
      · replace hm := if_t c_5 hm
        refine lv_aload_n hx hb d_Model_defined_219 rfl (lv_at hl 0 rfl) ?_
        refine lv_bipush (v := 8) hx hb d_Model_defined_220 (by decide) ?_
        obtain ⟨i_7, j_8, a_9, b_10, r_11, h_6, hm⟩ := om_some hm
        have hFc := x_free hD hS hA
        refine va_calll (va_runV (As := [.int 8]) (rest := []) ⟨hx, hb, hml, hown, hts⟩ (x_Model_fails l dC dI cI cJ cB adK adV adA h v H.size n h_6) (cwV 1 hts (tw_GV tw_cons cw_Model_fails lk_Model_596 in_Model_fails sel_Model_fails ini_Model) rfl rfl rfl ⟨rfl, hd_Model_fails⟩ ⟨Nat.le_of_ble_eq_true rfl, Nat.le_of_ble_eq_true rfl⟩) (ypV hK hP hD hS hE hFc yo_12 rfl) rfl rfl hl.1 rfl (lv_room (Nat.le_of_ble_eq_true rfl)) d_Model_defined_222 ⟨Nat.le_of_ble_eq_true rfl, Nat.le_of_ble_eq_true rfl⟩) hS (fun q _ h => hFc q h) hFc (fun r9 u9 t9 H locs ht hvm e9 hB hz1 hk1 hS => ?_)
        have e9 : r_11 = r9 := e9
        subst e9
        obtain ⟨hP, hD⟩ := y_aft hB ht hFc
        clear hFc hk1 hz1 hvm hB ht
        obtain ⟨e1i, e1j, e1a, e1b, e3⟩ := re4m hm
        obtain ⟨hP, hD⟩ := y_eq e1i e1j e1a e1b hP hD
        exact W.lret hx hb hr (fun t9 ht hW => ⟨⟨_, (), rfl, e3.symm, by rw [ht]; exact hP, hD⟩, hS.F ht⟩) hS.2.2 d_Model_defined_225
  · replace hm := if_t c_1 hm
    refine lv_aload_n hx hb d_Model_defined_195 rfl (lv_at hl 0 rfl) ?_
    refine lv_iconst (v := 3) hx hb d_Model_defined_196 (by decide) ?_
    obtain ⟨i_13, j_14, a_15, b_16, r_17, h_12, hm⟩ := om_some hm
    have hFc := x_free hD hS hA
    refine va_calll (va_runV (As := [.int 3]) (rest := []) ⟨hx, hb, hml, hown, hts⟩ (x_Model_fails l dC dI cI cJ cB adK adV adA h v H.size n h_12) (cwV 1 hts (tw_GV tw_cons cw_Model_fails lk_Model_596 in_Model_fails sel_Model_fails ini_Model) rfl rfl rfl ⟨rfl, hd_Model_fails⟩ ⟨Nat.le_of_ble_eq_true rfl, Nat.le_of_ble_eq_true rfl⟩) (ypV hK hP hD hS hE hFc yo_12 rfl) rfl rfl hl.1 rfl (lv_room (Nat.le_of_ble_eq_true rfl)) d_Model_defined_197 ⟨Nat.le_of_ble_eq_true rfl, Nat.le_of_ble_eq_true rfl⟩) hS (fun q _ h => hFc q h) hFc (fun r9 u9 t9 H locs ht hvm e9 hB hz1 hk1 hS => ?_)
    have e9 : r_17 = r9 := e9
    subst e9
    obtain ⟨hP, hD⟩ := y_aft hB ht hFc
    clear hFc hk1 hz1 hvm hB ht
    obtain ⟨e1i, e1j, e1a, e1b, e3⟩ := re4m hm
    obtain ⟨hP, hD⟩ := y_eq e1i e1j e1a e1b hP hD
    exact W.lret hx hb hr (fun t9 ht hW => ⟨⟨_, (), rfl, e3.symm, by rw [ht]; exact hP, hD⟩, hS.F ht⟩) hS.2.2 d_Model_defined_200
def m_Model_defined_b184 (n : Nat) (rc_98 : (Nat → Int32) → (Nat → Int64) → (Nat → Nat → Int32) → (Nat → Nat → Int64) → Int32 → Int64 → Int32 → Int64 → Int32 → Option ((Nat → Int32) × (Nat → Int64) × (Nat → Nat → Int32) × (Nat → Nat → Int64) × Int64)) (i : Nat → Int32) (j : Nat → Int64) (a : Nat → Nat → Int32) (b : Nat → Nat → Int64) (v1 : Int32) (v2 : Int64) (v4 : Int32) (v5 : Int64) (v7 : Int32) : Option ((Nat → Int32) × (Nat → Int64) × (Nat → Nat → Int32) × (Nat → Nat → Int64) × Int64) := ob1 (v7 + 1 : Int32) (fun x_1 => rc_98 i j a b v1 v2 v4 v5 x_1)
set_option maxHeartbeats 4000000 in
set_option maxRecDepth 100000 in
theorem lb_Model_defined_184 (l : Launch) (dC : Nat → ClassId) (dI : Nat → Nat → Nat) (cI cJ cB : ClassId) (adK adV adA : Nat → Nat) (h : Nat) (v : Nat → Nat) (n : Nat) {p : Program} {e : Env} {s : State} {m : MethodId} {args : Array Value} {below : List Frame} {meth : Method} {c : Code} {A : Nat → Prop} (hx : p.tables.exec = Jvm.exec) (hb : c.code = b_Model_defined) (hml : c.maxLocals = 9) (hown : s.vm.findClass R_Model = some m.cls) (hts : ∀ w ∈ w_Model_defined, w.before args s = true) (hK : va_K (dC, dI) classes [(cI, .int), (cJ, .long), (cB, .byte)] s) (hE : tw_E adK adV adA A s s.heap) (hA : ∀ q : Nat, s.heap.size ≤ q → A q) (hr : meth.sig.returnType = (some .long)) (hlocks : meth.locks = false) {i2 : Nat → Int32} {j2 : Nat → Int64} {a2 : Nat → Nat → Int32} {b2 : Nat → Nat → Int64} {r2 : Int64} (rc_98 : (Nat → Int32) → (Nat → Int64) → (Nat → Nat → Int32) → (Nat → Nat → Int64) → Int32 → Int64 → Int32 → Int64 → Int32 → Option ((Nat → Int32) × (Nat → Int64) × (Nat → Nat → Int32) × (Nat → Nat → Int64) × Int64)) (Hrc_98 : ∀ (i : Nat → Int32) (j : Nat → Int64) (a : Nat → Nat → Int32) (b : Nat → Nat → Int64) (v1 : Int32) (v2 : Int64) (v4 : Int32) (v5 : Int64) (v7 : Int32), rc_98 i j a b v1 v2 v4 v5 v7 = some (i2, j2, a2, b2, r2) → ∀ (H : Heap) (locs : List Loc) (ls : Array Slot), va_P (dC, dI) classes (MW cI cJ cB h v i j a b) H → va_D A (MW cI cJ cB h v i j a b) → va_S A s.heap H locs → lv_has ls 9 [(0, .ref h), (1, .int v1), (2, .long v2), (4, .int v4), (5, .long v5), (7, .int v7)] → W p l e ({ frames := 6, cells := 0, slots := 0, locals := 134 } : Room) s m args below meth c H locs 0 0 (MQ below (va_Ql (xR r2) (yB dC dI cI cJ cB h v i2 j2 a2 b2 A) A) args s 0 0 A) (F0 m 98 ls [])) (i : Nat → Int32) (j : Nat → Int64) (a : Nat → Nat → Int32) (b : Nat → Nat → Int64) (v1 : Int32) (v2 : Int64) (v4 : Int32) (v5 : Int64) (v7 : Int32) (hm : m_Model_defined_b184 n rc_98 i j a b v1 v2 v4 v5 v7 = some (i2, j2, a2, b2, r2)) : ∀ (H : Heap) (locs : List Loc) (ls : Array Slot), va_P (dC, dI) classes (MW cI cJ cB h v i j a b) H → va_D A (MW cI cJ cB h v i j a b) → va_S A s.heap H locs → lv_has ls 9 [(0, .ref h), (1, .int v1), (2, .long v2), (4, .int v4), (5, .long v5), (7, .int v7)] → W p l e ({ frames := 6, cells := 0, slots := 0, locals := 134 } : Room) s m args below meth c H locs 0 0 (MQ below (va_Ql (xR r2) (yB dC dI cI cJ cB h v i2 j2 a2 b2 A) A) args s 0 0 A) (F0 m 184 ls []) := by
  have htt : ∀ w ∈ tw_T, w.before _ s = true := fun w h => hts w (List.mem_cons_of_mem _ h)
  intro H locs ls hP hD hS hl
  rw [m_Model_defined_b184] at hm
  obtain ⟨x_1, ex_1⟩ : ∃ y9 : Int32, y9 = v7 + 1 := ⟨_, rfl⟩
  replace hm := ob1_at ex_1 hm
  refine lv_iinc (v := x_1) (lv' := [(7, .int x_1), (0, .ref h), (1, .int v1), (2, .long v2), (4, .int v4), (5, .long v5)]) hx hb d_Model_defined_184 hl (k := 5) rfl (by rw [ex_1]; rfl) (by decide) rfl (fun ls hl => ?_)
  refine lv_goto (tgt := 98) hx hb d_Model_defined_187 (by decide) ?_
  exact Hrc_98 _ _ _ _ _ _ _ _ _ hm _ _ _ hP hD hS (lv_sub hl [1, 2, 3, 4, 5, 0] rfl)
def m_Model_defined_b176 (n : Nat) (rc_98 : (Nat → Int32) → (Nat → Int64) → (Nat → Nat → Int32) → (Nat → Nat → Int64) → Int32 → Int64 → Int32 → Int64 → Int32 → Option ((Nat → Int32) × (Nat → Int64) × (Nat → Nat → Int32) × (Nat → Nat → Int64) × Int64)) (rc_130 : (Nat → Int32) → (Nat → Int64) → (Nat → Nat → Int32) → (Nat → Nat → Int64) → Int32 → Int64 → Int32 → Int64 → Int32 → Int32 → Option ((Nat → Int32) × (Nat → Int64) × (Nat → Nat → Int32) × (Nat → Nat → Int64) × Int64)) (i : Nat → Int32) (j : Nat → Int64) (a : Nat → Nat → Int32) (b : Nat → Nat → Int64) (v1 : Int32) (v2 : Int64) (v5 : Int64) (v7 : Int32) (v8 : Int32) (s0 : Int32) : Option ((Nat → Int32) × (Nat → Int64) × (Nat → Nat → Int32) × (Nat → Nat → Int64) × Int64) := ob1 (v8 + 1 : Int32) (fun x_1 => rc_130 i j a b v1 v2 s0 v5 v7 x_1)
set_option maxHeartbeats 4000000 in
set_option maxRecDepth 100000 in
theorem lb_Model_defined_176 (l : Launch) (dC : Nat → ClassId) (dI : Nat → Nat → Nat) (cI cJ cB : ClassId) (adK adV adA : Nat → Nat) (h : Nat) (v : Nat → Nat) (n : Nat) {p : Program} {e : Env} {s : State} {m : MethodId} {args : Array Value} {below : List Frame} {meth : Method} {c : Code} {A : Nat → Prop} (hx : p.tables.exec = Jvm.exec) (hb : c.code = b_Model_defined) (hml : c.maxLocals = 9) (hown : s.vm.findClass R_Model = some m.cls) (hts : ∀ w ∈ w_Model_defined, w.before args s = true) (hK : va_K (dC, dI) classes [(cI, .int), (cJ, .long), (cB, .byte)] s) (hE : tw_E adK adV adA A s s.heap) (hA : ∀ q : Nat, s.heap.size ≤ q → A q) (hr : meth.sig.returnType = (some .long)) (hlocks : meth.locks = false) {i2 : Nat → Int32} {j2 : Nat → Int64} {a2 : Nat → Nat → Int32} {b2 : Nat → Nat → Int64} {r2 : Int64} (rc_98 : (Nat → Int32) → (Nat → Int64) → (Nat → Nat → Int32) → (Nat → Nat → Int64) → Int32 → Int64 → Int32 → Int64 → Int32 → Option ((Nat → Int32) × (Nat → Int64) × (Nat → Nat → Int32) × (Nat → Nat → Int64) × Int64)) (rc_130 : (Nat → Int32) → (Nat → Int64) → (Nat → Nat → Int32) → (Nat → Nat → Int64) → Int32 → Int64 → Int32 → Int64 → Int32 → Int32 → Option ((Nat → Int32) × (Nat → Int64) × (Nat → Nat → Int32) × (Nat → Nat → Int64) × Int64)) (Hrc_98 : ∀ (i : Nat → Int32) (j : Nat → Int64) (a : Nat → Nat → Int32) (b : Nat → Nat → Int64) (v1 : Int32) (v2 : Int64) (v4 : Int32) (v5 : Int64) (v7 : Int32), rc_98 i j a b v1 v2 v4 v5 v7 = some (i2, j2, a2, b2, r2) → ∀ (H : Heap) (locs : List Loc) (ls : Array Slot), va_P (dC, dI) classes (MW cI cJ cB h v i j a b) H → va_D A (MW cI cJ cB h v i j a b) → va_S A s.heap H locs → lv_has ls 9 [(0, .ref h), (1, .int v1), (2, .long v2), (4, .int v4), (5, .long v5), (7, .int v7)] → W p l e ({ frames := 6, cells := 0, slots := 0, locals := 134 } : Room) s m args below meth c H locs 0 0 (MQ below (va_Ql (xR r2) (yB dC dI cI cJ cB h v i2 j2 a2 b2 A) A) args s 0 0 A) (F0 m 98 ls [])) (Hrc_130 : ∀ (i : Nat → Int32) (j : Nat → Int64) (a : Nat → Nat → Int32) (b : Nat → Nat → Int64) (v1 : Int32) (v2 : Int64) (v4 : Int32) (v5 : Int64) (v7 : Int32) (v8 : Int32), rc_130 i j a b v1 v2 v4 v5 v7 v8 = some (i2, j2, a2, b2, r2) → ∀ (H : Heap) (locs : List Loc) (ls : Array Slot), va_P (dC, dI) classes (MW cI cJ cB h v i j a b) H → va_D A (MW cI cJ cB h v i j a b) → va_S A s.heap H locs → lv_has ls 9 [(0, .ref h), (1, .int v1), (2, .long v2), (4, .int v4), (5, .long v5), (7, .int v7), (8, .int v8)] → W p l e ({ frames := 6, cells := 0, slots := 0, locals := 134 } : Room) s m args below meth c H locs 0 0 (MQ below (va_Ql (xR r2) (yB dC dI cI cJ cB h v i2 j2 a2 b2 A) A) args s 0 0 A) (F0 m 130 ls [])) (i : Nat → Int32) (j : Nat → Int64) (a : Nat → Nat → Int32) (b : Nat → Nat → Int64) (v1 : Int32) (v2 : Int64) (v5 : Int64) (v7 : Int32) (v8 : Int32) (s0 : Int32) (hm : m_Model_defined_b176 n rc_98 rc_130 i j a b v1 v2 v5 v7 v8 s0 = some (i2, j2, a2, b2, r2)) : ∀ (H : Heap) (locs : List Loc) (ls : Array Slot), va_P (dC, dI) classes (MW cI cJ cB h v i j a b) H → va_D A (MW cI cJ cB h v i j a b) → va_S A s.heap H locs → lv_has ls 9 [(0, .ref h), (1, .int v1), (2, .long v2), (5, .long v5), (7, .int v7), (8, .int v8)] → W p l e ({ frames := 6, cells := 0, slots := 0, locals := 134 } : Room) s m args below meth c H locs 0 0 (MQ below (va_Ql (xR r2) (yB dC dI cI cJ cB h v i2 j2 a2 b2 A) A) args s 0 0 A) (F0 m 176 ls [.int s0]) := by
  have htt : ∀ w ∈ tw_T, w.before _ s = true := fun w h => hts w (List.mem_cons_of_mem _ h)
  intro H locs ls hP hD hS hl
  rw [m_Model_defined_b176] at hm
  refine lv_istore (lv' := [(4, .int s0), (0, .ref h), (1, .int v1), (2, .long v2), (5, .long v5), (7, .int v7), (8, .int v8)]) hx hb d_Model_defined_176 hl (by decide) rfl (fun ls hl => ?_)
  obtain ⟨x_1, ex_1⟩ : ∃ y9 : Int32, y9 = v8 + 1 := ⟨_, rfl⟩
  replace hm := ob1_at ex_1 hm
  refine lv_iinc (v := x_1) (lv' := [(8, .int x_1), (4, .int s0), (0, .ref h), (1, .int v1), (2, .long v2), (5, .long v5), (7, .int v7)]) hx hb d_Model_defined_178 hl (k := 6) rfl (by rw [ex_1]; rfl) (by decide) rfl (fun ls hl => ?_)
  refine lv_goto (tgt := 130) hx hb d_Model_defined_181 (by decide) ?_
  exact Hrc_130 _ _ _ _ _ _ _ _ _ _ hm _ _ _ hP hD hS (lv_sub hl [2, 3, 4, 1, 5, 6, 0] rfl)
def m_Model_defined_b130 (n : Nat) (rc_98 : (Nat → Int32) → (Nat → Int64) → (Nat → Nat → Int32) → (Nat → Nat → Int64) → Int32 → Int64 → Int32 → Int64 → Int32 → Option ((Nat → Int32) × (Nat → Int64) × (Nat → Nat → Int32) × (Nat → Nat → Int64) × Int64)) : Nat → (Nat → Int32) → (Nat → Int64) → (Nat → Nat → Int32) → (Nat → Nat → Int64) → Int32 → Int64 → Int32 → Int64 → Int32 → Int32 → Option ((Nat → Int32) × (Nat → Int64) × (Nat → Nat → Int32) × (Nat → Nat → Int64) × Int64)
  | 0, _, _, _, _, _, _, _, _, _, _ => none
  | f + 1, i, j, a, b, v1, v2, v4, v5, v7, v8 => if v4 = ((0 : Int32)) then m_Model_defined_b184 n rc_98 i j a b v1 v2 v4 v5 v7 else if v7 ≤ v8 then m_Model_defined_b184 n rc_98 i j a b v1 v2 v4 v5 v7 else ob0 (m_Model_member n i j a b v5 v8) (fun r_4 => ob0 (m_Model_what n r_4) (fun r_6 => ob0 (m_Model_member n i j a b v5 v7) (fun r_8 => ob0 (m_Model_what n r_8) (fun r_10 => ob0 (m_Model_sameWord n i j a b r_6 r_10) (fun r_12 => if r_12 = ((0 : Int32)) then m_Model_defined_b176 n rc_98 (m_Model_defined_b130 n rc_98 f) i j a b v1 v2 v5 v7 v8 (1 : Int32) else m_Model_defined_b176 n rc_98 (m_Model_defined_b130 n rc_98 f) i j a b v1 v2 v5 v7 v8 (0 : Int32))))))
set_option maxHeartbeats 4000000 in
set_option maxRecDepth 100000 in
theorem lb_Model_defined_130 (l : Launch) (dC : Nat → ClassId) (dI : Nat → Nat → Nat) (cI cJ cB : ClassId) (adK adV adA : Nat → Nat) (h : Nat) (v : Nat → Nat) (n : Nat) {p : Program} {e : Env} {s : State} {m : MethodId} {args : Array Value} {below : List Frame} {meth : Method} {c : Code} {A : Nat → Prop} (hx : p.tables.exec = Jvm.exec) (hb : c.code = b_Model_defined) (hml : c.maxLocals = 9) (hown : s.vm.findClass R_Model = some m.cls) (hts : ∀ w ∈ w_Model_defined, w.before args s = true) (hK : va_K (dC, dI) classes [(cI, .int), (cJ, .long), (cB, .byte)] s) (hE : tw_E adK adV adA A s s.heap) (hA : ∀ q : Nat, s.heap.size ≤ q → A q) (hr : meth.sig.returnType = (some .long)) (hlocks : meth.locks = false) {i2 : Nat → Int32} {j2 : Nat → Int64} {a2 : Nat → Nat → Int32} {b2 : Nat → Nat → Int64} {r2 : Int64} (rc_98 : (Nat → Int32) → (Nat → Int64) → (Nat → Nat → Int32) → (Nat → Nat → Int64) → Int32 → Int64 → Int32 → Int64 → Int32 → Option ((Nat → Int32) × (Nat → Int64) × (Nat → Nat → Int32) × (Nat → Nat → Int64) × Int64)) (Hrc_98 : ∀ (i : Nat → Int32) (j : Nat → Int64) (a : Nat → Nat → Int32) (b : Nat → Nat → Int64) (v1 : Int32) (v2 : Int64) (v4 : Int32) (v5 : Int64) (v7 : Int32), rc_98 i j a b v1 v2 v4 v5 v7 = some (i2, j2, a2, b2, r2) → ∀ (H : Heap) (locs : List Loc) (ls : Array Slot), va_P (dC, dI) classes (MW cI cJ cB h v i j a b) H → va_D A (MW cI cJ cB h v i j a b) → va_S A s.heap H locs → lv_has ls 9 [(0, .ref h), (1, .int v1), (2, .long v2), (4, .int v4), (5, .long v5), (7, .int v7)] → W p l e ({ frames := 6, cells := 0, slots := 0, locals := 134 } : Room) s m args below meth c H locs 0 0 (MQ below (va_Ql (xR r2) (yB dC dI cI cJ cB h v i2 j2 a2 b2 A) A) args s 0 0 A) (F0 m 98 ls [])) : ∀ (f : Nat) (i : Nat → Int32) (j : Nat → Int64) (a : Nat → Nat → Int32) (b : Nat → Nat → Int64) (v1 : Int32) (v2 : Int64) (v4 : Int32) (v5 : Int64) (v7 : Int32) (v8 : Int32), m_Model_defined_b130 n rc_98 f i j a b v1 v2 v4 v5 v7 v8 = some (i2, j2, a2, b2, r2) → ∀ (H : Heap) (locs : List Loc) (ls : Array Slot), va_P (dC, dI) classes (MW cI cJ cB h v i j a b) H → va_D A (MW cI cJ cB h v i j a b) → va_S A s.heap H locs → lv_has ls 9 [(0, .ref h), (1, .int v1), (2, .long v2), (4, .int v4), (5, .long v5), (7, .int v7), (8, .int v8)] → W p l e ({ frames := 6, cells := 0, slots := 0, locals := 134 } : Room) s m args below meth c H locs 0 0 (MQ below (va_Ql (xR r2) (yB dC dI cI cJ cB h v i2 j2 a2 b2 A) A) args s 0 0 A) (F0 m 130 ls []) := by
  have htt : ∀ w ∈ tw_T, w.before _ s = true := fun w h => hts w (List.mem_cons_of_mem _ h)
  intro f
  induction f with
  | zero =>
    intro i j a b v1 v2 v4 v5 v7 v8 hm
    rw [m_Model_defined_b130] at hm
    cases hm
  | succ f ih =>
    intro i j a b v1 v2 v4 v5 v7 v8 hm H locs ls hP hD hS hl
    rw [m_Model_defined_b130] at hm
    refine lv_iload hx hb d_Model_defined_130 (lv_at hl 3 rfl) ?_
    refine lv_if_eq (tgt := 184) hx hb d_Model_defined_132 (by decide) (fun c_1 => ?_) (fun c_1 => ?_)
    · replace hm := if_t c_1 hm
      exact lb_Model_defined_184 l dC dI cI cJ cB adK adV adA h v n hx hb hml hown hts hK hE hA hr hlocks rc_98 Hrc_98 _ _ _ _ _ _ _ _ _ hm _ _ _ hP hD hS (lv_sub hl [0, 1, 2, 3, 4, 5] rfl)
    · replace hm := if_f c_1 hm
      refine lv_iload hx hb d_Model_defined_135 (lv_at hl 6 rfl) ?_
      refine lv_iload hx hb d_Model_defined_137 (lv_at hl 5 rfl) ?_
      refine lv_icmp_ge (tgt := 184) hx hb d_Model_defined_139 (by decide) (fun c_2 => ?_) (fun c_2 => ?_)
      · replace hm := if_t c_2 hm
        exact lb_Model_defined_184 l dC dI cI cJ cB adK adV adA h v n hx hb hml hown hts hK hE hA hr hlocks rc_98 Hrc_98 _ _ _ _ _ _ _ _ _ hm _ _ _ hP hD hS (lv_sub hl [0, 1, 2, 3, 4, 5] rfl)
      · replace hm := if_f c_2 hm
        refine lv_aload_n hx hb d_Model_defined_142 rfl (lv_at hl 0 rfl) ?_
        refine lv_aload_n hx hb d_Model_defined_143 rfl (lv_at hl 0 rfl) ?_
        refine lv_lload hx hb d_Model_defined_144 (lv_at hl 4 rfl) ?_
        refine lv_iload hx hb d_Model_defined_146 (lv_at hl 6 rfl) ?_
        obtain ⟨r_4, h_3, hm⟩ := ob0_some hm
        have hFc := x_free0 hS hA
        refine va_calll (va_runV (As := [.long v5, .int v8]) (rest := [.ref h]) ⟨hx, hb, hml, hown, hts⟩ (x_Model_member l dC dI cI cJ cB adK adV adA h v H.size n h_3) (cwV 2 hts (tw_GV tw_cons cw_Model_member lk_Model_101 in_Model_member sel_Model_member ini_Model) rfl rfl rfl ⟨rfl, hd_Model_member⟩ ⟨Nat.le_of_ble_eq_true rfl, Nat.le_of_ble_eq_true rfl⟩) (ypVr hK hP hS hE hFc yo_12 rfl) rfl rfl hl.1 rfl (lv_room (Nat.le_of_ble_eq_true rfl)) d_Model_defined_148 ⟨Nat.le_of_ble_eq_true rfl, Nat.le_of_ble_eq_true rfl⟩) hS (fun q _ h => hFc q h) hFc (fun r9 u9 t9 H locs ht hvm e9 hB hz1 hk1 hS => ?_)
        have e9 : r_4 = r9 := e9
        subst e9
        replace hP := x_keep hP hk1
        clear hFc hk1 hz1 hvm hB ht
        obtain ⟨r_6, h_5, hm⟩ := ob0_some hm
        have hFc := x_free0 hS hA
        refine va_calli (va_runS (As := [.long r_4]) (rest := [.ref h]) ⟨hx, hb, hml, hown, hts⟩ (x_Model_what l H.size n h_5) (va_cwS 1 hts (tw_GS tw_cons cw_Model_what lk_Model_64 st_Model_what ini_Model) rfl rfl rfl hd_Model_what ⟨Nat.le_of_ble_eq_true rfl, Nat.le_of_ble_eq_true rfl⟩) xpS0 rfl rfl hl.1 rfl (lv_room (Nat.le_of_ble_eq_true rfl)) d_Model_defined_151 ⟨Nat.le_of_ble_eq_true rfl, Nat.le_of_ble_eq_true rfl⟩) hS (fun q _ h => hFc q h) hFc (fun r9 u9 t9 H locs ht hvm e9 hB hz1 hk1 hS => ?_)
        have e9 : r_6 = r9 := e9
        subst e9
        replace hP := x_keep hP hk1
        clear hFc hk1 hz1 hvm hB ht
        refine lv_aload_n hx hb d_Model_defined_154 rfl (lv_at hl 0 rfl) ?_
        refine lv_lload hx hb d_Model_defined_155 (lv_at hl 4 rfl) ?_
        refine lv_iload hx hb d_Model_defined_157 (lv_at hl 5 rfl) ?_
        obtain ⟨r_8, h_7, hm⟩ := ob0_some hm
        have hFc := x_free0 hS hA
        refine va_calll (va_runV (As := [.long v5, .int v7]) (rest := [.int r_6, .ref h]) ⟨hx, hb, hml, hown, hts⟩ (x_Model_member l dC dI cI cJ cB adK adV adA h v H.size n h_7) (cwV 2 hts (tw_GV tw_cons cw_Model_member lk_Model_101 in_Model_member sel_Model_member ini_Model) rfl rfl rfl ⟨rfl, hd_Model_member⟩ ⟨Nat.le_of_ble_eq_true rfl, Nat.le_of_ble_eq_true rfl⟩) (ypVr hK hP hS hE hFc yo_12 rfl) rfl rfl hl.1 rfl (lv_room (Nat.le_of_ble_eq_true rfl)) d_Model_defined_159 ⟨Nat.le_of_ble_eq_true rfl, Nat.le_of_ble_eq_true rfl⟩) hS (fun q _ h => hFc q h) hFc (fun r9 u9 t9 H locs ht hvm e9 hB hz1 hk1 hS => ?_)
        have e9 : r_8 = r9 := e9
        subst e9
        replace hP := x_keep hP hk1
        clear hFc hk1 hz1 hvm hB ht
        obtain ⟨r_10, h_9, hm⟩ := ob0_some hm
        have hFc := x_free0 hS hA
        refine va_calli (va_runS (As := [.long r_8]) (rest := [.int r_6, .ref h]) ⟨hx, hb, hml, hown, hts⟩ (x_Model_what l H.size n h_9) (va_cwS 1 hts (tw_GS tw_cons cw_Model_what lk_Model_64 st_Model_what ini_Model) rfl rfl rfl hd_Model_what ⟨Nat.le_of_ble_eq_true rfl, Nat.le_of_ble_eq_true rfl⟩) xpS0 rfl rfl hl.1 rfl (lv_room (Nat.le_of_ble_eq_true rfl)) d_Model_defined_162 ⟨Nat.le_of_ble_eq_true rfl, Nat.le_of_ble_eq_true rfl⟩) hS (fun q _ h => hFc q h) hFc (fun r9 u9 t9 H locs ht hvm e9 hB hz1 hk1 hS => ?_)
        have e9 : r_10 = r9 := e9
        subst e9
        replace hP := x_keep hP hk1
        clear hFc hk1 hz1 hvm hB ht
        obtain ⟨r_12, h_11, hm⟩ := ob0_some hm
        have hFc := x_free0 hS hA
        refine va_calli (va_runV (As := [.int r_6, .int r_10]) (rest := []) ⟨hx, hb, hml, hown, hts⟩ (x_Model_sameWord l dC dI cI cJ cB adK adV adA h v H.size n h_11) (cwV 2 hts (tw_GV tw_cons cw_Model_sameWord lk_Model_91 in_Model_sameWord sel_Model_sameWord ini_Model) rfl rfl rfl ⟨rfl, hd_Model_sameWord⟩ ⟨Nat.le_of_ble_eq_true rfl, Nat.le_of_ble_eq_true rfl⟩) (ypVr hK hP hS hE hFc yo_12 rfl) rfl rfl hl.1 rfl (lv_room (Nat.le_of_ble_eq_true rfl)) d_Model_defined_165 ⟨Nat.le_of_ble_eq_true rfl, Nat.le_of_ble_eq_true rfl⟩) hS (fun q _ h => hFc q h) hFc (fun r9 u9 t9 H locs ht hvm e9 hB hz1 hk1 hS => ?_)
        have e9 : r_12 = r9 := e9
        subst e9
        replace hP := x_keep hP hk1
        clear hFc hk1 hz1 hvm hB ht
        refine lv_if_ne (tgt := 175) hx hb d_Model_defined_168 (by decide) (fun c_13 => ?_) (fun c_13 => ?_)
        · replace hm := if_f c_13 hm
          refine lv_iconst (v := 0) hx hb d_Model_defined_175 (by decide) ?_
          exact lb_Model_defined_176 l dC dI cI cJ cB adK adV adA h v n hx hb hml hown hts hK hE hA hr hlocks rc_98 (m_Model_defined_b130 n rc_98 f) Hrc_98 ih _ _ _ _ _ _ _ _ _ _ hm _ _ _ hP hD hS (lv_sub hl [0, 1, 2, 4, 5, 6] rfl)
        · replace hm := if_t c_13 hm
          refine lv_iconst (v := 1) hx hb d_Model_defined_171 (by decide) ?_
          refine lv_goto (tgt := 176) hx hb d_Model_defined_172 (by decide) ?_
          exact lb_Model_defined_176 l dC dI cI cJ cB adK adV adA h v n hx hb hml hown hts hK hE hA hr hlocks rc_98 (m_Model_defined_b130 n rc_98 f) Hrc_98 ih _ _ _ _ _ _ _ _ _ _ hm _ _ _ hP hD hS (lv_sub hl [0, 1, 2, 4, 5, 6] rfl)
def m_Model_defined_b98 (n : Nat) : Nat → (Nat → Int32) → (Nat → Int64) → (Nat → Nat → Int32) → (Nat → Nat → Int64) → Int32 → Int64 → Int32 → Int64 → Int32 → Option ((Nat → Int32) × (Nat → Int64) × (Nat → Nat → Int32) × (Nat → Nat → Int64) × Int64)
  | 0, _, _, _, _, _, _, _, _, _ => none
  | f + 1, i, j, a, b, v1, v2, v4, v5, v7 => if v4 = ((0 : Int32)) then m_Model_defined_b190 n i j a b v1 v2 v4 v5 else ob0 (m_Model_size n i j a b v5) (fun r_3 => if r_3 ≤ v7 then m_Model_defined_b190 n i j a b v1 v2 v4 v5 else ob0 (m_Model_member n i j a b v5 v7) (fun r_6 => ob0 (m_Model_isWord n r_6) (fun r_8 => m_Model_defined_b130 n (m_Model_defined_b98 n f) n i j a b v1 v2 r_8 v5 v7 (0 : Int32))))
set_option maxHeartbeats 4000000 in
set_option maxRecDepth 100000 in
theorem lb_Model_defined_98 (l : Launch) (dC : Nat → ClassId) (dI : Nat → Nat → Nat) (cI cJ cB : ClassId) (adK adV adA : Nat → Nat) (h : Nat) (v : Nat → Nat) (n : Nat) {p : Program} {e : Env} {s : State} {m : MethodId} {args : Array Value} {below : List Frame} {meth : Method} {c : Code} {A : Nat → Prop} (hx : p.tables.exec = Jvm.exec) (hb : c.code = b_Model_defined) (hml : c.maxLocals = 9) (hown : s.vm.findClass R_Model = some m.cls) (hts : ∀ w ∈ w_Model_defined, w.before args s = true) (hK : va_K (dC, dI) classes [(cI, .int), (cJ, .long), (cB, .byte)] s) (hE : tw_E adK adV adA A s s.heap) (hA : ∀ q : Nat, s.heap.size ≤ q → A q) (hr : meth.sig.returnType = (some .long)) (hlocks : meth.locks = false) {i2 : Nat → Int32} {j2 : Nat → Int64} {a2 : Nat → Nat → Int32} {b2 : Nat → Nat → Int64} {r2 : Int64} : ∀ (f : Nat) (i : Nat → Int32) (j : Nat → Int64) (a : Nat → Nat → Int32) (b : Nat → Nat → Int64) (v1 : Int32) (v2 : Int64) (v4 : Int32) (v5 : Int64) (v7 : Int32), m_Model_defined_b98 n f i j a b v1 v2 v4 v5 v7 = some (i2, j2, a2, b2, r2) → ∀ (H : Heap) (locs : List Loc) (ls : Array Slot), va_P (dC, dI) classes (MW cI cJ cB h v i j a b) H → va_D A (MW cI cJ cB h v i j a b) → va_S A s.heap H locs → lv_has ls 9 [(0, .ref h), (1, .int v1), (2, .long v2), (4, .int v4), (5, .long v5), (7, .int v7)] → W p l e ({ frames := 6, cells := 0, slots := 0, locals := 134 } : Room) s m args below meth c H locs 0 0 (MQ below (va_Ql (xR r2) (yB dC dI cI cJ cB h v i2 j2 a2 b2 A) A) args s 0 0 A) (F0 m 98 ls []) := by
  have htt : ∀ w ∈ tw_T, w.before _ s = true := fun w h => hts w (List.mem_cons_of_mem _ h)
  intro f
  induction f with
  | zero =>
    intro i j a b v1 v2 v4 v5 v7 hm
    rw [m_Model_defined_b98] at hm
    cases hm
  | succ f ih =>
    intro i j a b v1 v2 v4 v5 v7 hm H locs ls hP hD hS hl
    rw [m_Model_defined_b98] at hm
    refine lv_iload hx hb d_Model_defined_98 (lv_at hl 3 rfl) ?_
    refine lv_if_eq (tgt := 190) hx hb d_Model_defined_100 (by decide) (fun c_1 => ?_) (fun c_1 => ?_)
    · replace hm := if_t c_1 hm
      exact lb_Model_defined_190 l dC dI cI cJ cB adK adV adA h v n hx hb hml hown hts hK hE hA hr hlocks _ _ _ _ _ _ _ _ hm _ _ _ hP hD hS (lv_sub hl [0, 1, 2, 3, 4] rfl)
    · replace hm := if_f c_1 hm
      refine lv_iload hx hb d_Model_defined_103 (lv_at hl 5 rfl) ?_
      refine lv_aload_n hx hb d_Model_defined_105 rfl (lv_at hl 0 rfl) ?_
      refine lv_lload hx hb d_Model_defined_106 (lv_at hl 4 rfl) ?_
      obtain ⟨r_3, h_2, hm⟩ := ob0_some hm
      have hFc := x_free0 hS hA
      refine va_calli (va_runV (As := [.long v5]) (rest := [.int v7]) ⟨hx, hb, hml, hown, hts⟩ (x_Model_size l dC dI cI cJ cB adK adV adA h v H.size n h_2) (cwV 1 hts (tw_GV tw_cons cw_Model_size lk_Model_98 in_Model_size sel_Model_size ini_Model) rfl rfl rfl ⟨rfl, hd_Model_size⟩ ⟨Nat.le_of_ble_eq_true rfl, Nat.le_of_ble_eq_true rfl⟩) (ypVr hK hP hS hE hFc yo_12 rfl) rfl rfl hl.1 rfl (lv_room (Nat.le_of_ble_eq_true rfl)) d_Model_defined_108 ⟨Nat.le_of_ble_eq_true rfl, Nat.le_of_ble_eq_true rfl⟩) hS (fun q _ h => hFc q h) hFc (fun r9 u9 t9 H locs ht hvm e9 hB hz1 hk1 hS => ?_)
      have e9 : r_3 = r9 := e9
      subst e9
      replace hP := x_keep hP hk1
      clear hFc hk1 hz1 hvm hB ht
      refine lv_icmp_ge (tgt := 190) hx hb d_Model_defined_111 (by decide) (fun c_4 => ?_) (fun c_4 => ?_)
      · replace hm := if_t c_4 hm
        exact lb_Model_defined_190 l dC dI cI cJ cB adK adV adA h v n hx hb hml hown hts hK hE hA hr hlocks _ _ _ _ _ _ _ _ hm _ _ _ hP hD hS (lv_sub hl [0, 1, 2, 3, 4] rfl)
      · replace hm := if_f c_4 hm
        refine lv_aload_n hx hb d_Model_defined_114 rfl (lv_at hl 0 rfl) ?_
        refine lv_lload hx hb d_Model_defined_115 (lv_at hl 4 rfl) ?_
        refine lv_iload hx hb d_Model_defined_117 (lv_at hl 5 rfl) ?_
        obtain ⟨r_6, h_5, hm⟩ := ob0_some hm
        have hFc := x_free0 hS hA
        refine va_calll (va_runV (As := [.long v5, .int v7]) (rest := []) ⟨hx, hb, hml, hown, hts⟩ (x_Model_member l dC dI cI cJ cB adK adV adA h v H.size n h_5) (cwV 2 hts (tw_GV tw_cons cw_Model_member lk_Model_101 in_Model_member sel_Model_member ini_Model) rfl rfl rfl ⟨rfl, hd_Model_member⟩ ⟨Nat.le_of_ble_eq_true rfl, Nat.le_of_ble_eq_true rfl⟩) (ypVr hK hP hS hE hFc yo_12 rfl) rfl rfl hl.1 rfl (lv_room (Nat.le_of_ble_eq_true rfl)) d_Model_defined_119 ⟨Nat.le_of_ble_eq_true rfl, Nat.le_of_ble_eq_true rfl⟩) hS (fun q _ h => hFc q h) hFc (fun r9 u9 t9 H locs ht hvm e9 hB hz1 hk1 hS => ?_)
        have e9 : r_6 = r9 := e9
        subst e9
        replace hP := x_keep hP hk1
        clear hFc hk1 hz1 hvm hB ht
        obtain ⟨r_8, h_7, hm⟩ := ob0_some hm
        have hFc := x_free0 hS hA
        refine va_calli (va_runS (As := [.long r_6]) (rest := []) ⟨hx, hb, hml, hown, hts⟩ (x_Model_isWord l H.size n h_7) (va_cwS 1 hts (tw_GS tw_cons cw_Model_isWord lk_Model_61 st_Model_isWord ini_Model) rfl rfl rfl hd_Model_isWord ⟨Nat.le_of_ble_eq_true rfl, Nat.le_of_ble_eq_true rfl⟩) xpS0 rfl rfl hl.1 rfl (lv_room (Nat.le_of_ble_eq_true rfl)) d_Model_defined_122 ⟨Nat.le_of_ble_eq_true rfl, Nat.le_of_ble_eq_true rfl⟩) hS (fun q _ h => hFc q h) hFc (fun r9 u9 t9 H locs ht hvm e9 hB hz1 hk1 hS => ?_)
        have e9 : r_8 = r9 := e9
        subst e9
        replace hP := x_keep hP hk1
        clear hFc hk1 hz1 hvm hB ht
        refine lv_istore (lv' := [(4, .int r_8), (0, .ref h), (1, .int v1), (2, .long v2), (5, .long v5), (7, .int v7)]) hx hb d_Model_defined_125 hl (by decide) rfl (fun ls hl => ?_)
        refine lv_iconst (v := 0) hx hb d_Model_defined_127 (by decide) ?_
        refine lv_istore (lv' := [(8, .int 0), (4, .int r_8), (0, .ref h), (1, .int v1), (2, .long v2), (5, .long v5), (7, .int v7)]) hx hb d_Model_defined_128 hl (by decide) rfl (fun ls hl => ?_)
        exact lb_Model_defined_130 l dC dI cI cJ cB adK adV adA h v n hx hb hml hown hts hK hE hA hr hlocks (m_Model_defined_b98 n f) ih n _ _ _ _ _ _ _ _ _ _ hm _ _ _ hP hD hS (lv_sub hl [2, 3, 4, 1, 5, 6, 0] rfl)
def m_Model_defined_b93 (n : Nat) (i : Nat → Int32) (j : Nat → Int64) (a : Nat → Nat → Int32) (b : Nat → Nat → Int64) (v1 : Int32) (v2 : Int64) (v4 : Int32) (s0 : Int64) : Option ((Nat → Int32) × (Nat → Int64) × (Nat → Nat → Int32) × (Nat → Nat → Int64) × Int64) := m_Model_defined_b98 n n i j a b v1 v2 v4 s0 (0 : Int32)
set_option maxHeartbeats 4000000 in
set_option maxRecDepth 100000 in
theorem lb_Model_defined_93 (l : Launch) (dC : Nat → ClassId) (dI : Nat → Nat → Nat) (cI cJ cB : ClassId) (adK adV adA : Nat → Nat) (h : Nat) (v : Nat → Nat) (n : Nat) {p : Program} {e : Env} {s : State} {m : MethodId} {args : Array Value} {below : List Frame} {meth : Method} {c : Code} {A : Nat → Prop} (hx : p.tables.exec = Jvm.exec) (hb : c.code = b_Model_defined) (hml : c.maxLocals = 9) (hown : s.vm.findClass R_Model = some m.cls) (hts : ∀ w ∈ w_Model_defined, w.before args s = true) (hK : va_K (dC, dI) classes [(cI, .int), (cJ, .long), (cB, .byte)] s) (hE : tw_E adK adV adA A s s.heap) (hA : ∀ q : Nat, s.heap.size ≤ q → A q) (hr : meth.sig.returnType = (some .long)) (hlocks : meth.locks = false) {i2 : Nat → Int32} {j2 : Nat → Int64} {a2 : Nat → Nat → Int32} {b2 : Nat → Nat → Int64} {r2 : Int64} (i : Nat → Int32) (j : Nat → Int64) (a : Nat → Nat → Int32) (b : Nat → Nat → Int64) (v1 : Int32) (v2 : Int64) (v4 : Int32) (s0 : Int64) (hm : m_Model_defined_b93 n i j a b v1 v2 v4 s0 = some (i2, j2, a2, b2, r2)) : ∀ (H : Heap) (locs : List Loc) (ls : Array Slot), va_P (dC, dI) classes (MW cI cJ cB h v i j a b) H → va_D A (MW cI cJ cB h v i j a b) → va_S A s.heap H locs → lv_has ls 9 [(0, .ref h), (1, .int v1), (2, .long v2), (4, .int v4)] → W p l e ({ frames := 6, cells := 0, slots := 0, locals := 134 } : Room) s m args below meth c H locs 0 0 (MQ below (va_Ql (xR r2) (yB dC dI cI cJ cB h v i2 j2 a2 b2 A) A) args s 0 0 A) (F0 m 93 ls [.long s0]) := by
  have htt : ∀ w ∈ tw_T, w.before _ s = true := fun w h => hts w (List.mem_cons_of_mem _ h)
  intro H locs ls hP hD hS hl
  rw [m_Model_defined_b93] at hm
  refine lv_lstore (lv' := [(5, .long s0), (0, .ref h), (1, .int v1), (2, .long v2), (4, .int v4)]) hx hb d_Model_defined_93 hl (by decide) rfl (fun ls hl => ?_)
  refine lv_iconst (v := 0) hx hb d_Model_defined_95 (by decide) ?_
  refine lv_istore (lv' := [(7, .int 0), (5, .long s0), (0, .ref h), (1, .int v1), (2, .long v2), (4, .int v4)]) hx hb d_Model_defined_96 hl (by decide) rfl (fun ls hl => ?_)
  exact lb_Model_defined_98 l dC dI cI cJ cB adK adV adA h v n hx hb hml hown hts hK hE hA hr hlocks n _ _ _ _ _ _ _ _ _ hm _ _ _ hP hD hS (lv_sub hl [2, 3, 4, 5, 1, 0] rfl)
def m_Model_defined_b76 (n : Nat) (i : Nat → Int32) (j : Nat → Int64) (a : Nat → Nat → Int32) (b : Nat → Nat → Int64) (v1 : Int32) (v2 : Int64) (s0 : Int32) : Option ((Nat → Int32) × (Nat → Int64) × (Nat → Nat → Int32) × (Nat → Nat → Int64) × Int64) := if s0 = ((0 : Int32)) then m_Model_defined_b93 n i j a b v1 v2 s0 (0 : Int64) else ob0 (m_Model_member n i j a b v2 (0 : Int32)) (fun r_3 => m_Model_defined_b93 n i j a b v1 v2 s0 r_3)
set_option maxHeartbeats 4000000 in
set_option maxRecDepth 100000 in
theorem lb_Model_defined_76 (l : Launch) (dC : Nat → ClassId) (dI : Nat → Nat → Nat) (cI cJ cB : ClassId) (adK adV adA : Nat → Nat) (h : Nat) (v : Nat → Nat) (n : Nat) {p : Program} {e : Env} {s : State} {m : MethodId} {args : Array Value} {below : List Frame} {meth : Method} {c : Code} {A : Nat → Prop} (hx : p.tables.exec = Jvm.exec) (hb : c.code = b_Model_defined) (hml : c.maxLocals = 9) (hown : s.vm.findClass R_Model = some m.cls) (hts : ∀ w ∈ w_Model_defined, w.before args s = true) (hK : va_K (dC, dI) classes [(cI, .int), (cJ, .long), (cB, .byte)] s) (hE : tw_E adK adV adA A s s.heap) (hA : ∀ q : Nat, s.heap.size ≤ q → A q) (hr : meth.sig.returnType = (some .long)) (hlocks : meth.locks = false) {i2 : Nat → Int32} {j2 : Nat → Int64} {a2 : Nat → Nat → Int32} {b2 : Nat → Nat → Int64} {r2 : Int64} (i : Nat → Int32) (j : Nat → Int64) (a : Nat → Nat → Int32) (b : Nat → Nat → Int64) (v1 : Int32) (v2 : Int64) (s0 : Int32) (hm : m_Model_defined_b76 n i j a b v1 v2 s0 = some (i2, j2, a2, b2, r2)) : ∀ (H : Heap) (locs : List Loc) (ls : Array Slot), va_P (dC, dI) classes (MW cI cJ cB h v i j a b) H → va_D A (MW cI cJ cB h v i j a b) → va_S A s.heap H locs → lv_has ls 9 [(0, .ref h), (1, .int v1), (2, .long v2)] → W p l e ({ frames := 6, cells := 0, slots := 0, locals := 134 } : Room) s m args below meth c H locs 0 0 (MQ below (va_Ql (xR r2) (yB dC dI cI cJ cB h v i2 j2 a2 b2 A) A) args s 0 0 A) (F0 m 76 ls [.int s0]) := by
  have htt : ∀ w ∈ tw_T, w.before _ s = true := fun w h => hts w (List.mem_cons_of_mem _ h)
  intro H locs ls hP hD hS hl
  rw [m_Model_defined_b76] at hm
  refine lv_istore (lv' := [(4, .int s0), (0, .ref h), (1, .int v1), (2, .long v2)]) hx hb d_Model_defined_76 hl (by decide) rfl (fun ls hl => ?_)
  refine lv_iload hx hb d_Model_defined_78 (lv_at hl 0 rfl) ?_
  refine lv_if_eq (tgt := 92) hx hb d_Model_defined_80 (by decide) (fun c_1 => ?_) (fun c_1 => ?_)
  · replace hm := if_t c_1 hm
    refine lv_lconst (v := 0) hx hb d_Model_defined_92 (by decide) ?_
    exact lb_Model_defined_93 l dC dI cI cJ cB adK adV adA h v n hx hb hml hown hts hK hE hA hr hlocks _ _ _ _ _ _ _ _ hm _ _ _ hP hD hS (lv_sub hl [1, 2, 3, 0] rfl)
  · replace hm := if_f c_1 hm
    refine lv_aload_n hx hb d_Model_defined_83 rfl (lv_at hl 1 rfl) ?_
    refine lv_lload_n hx hb d_Model_defined_84 rfl (lv_at hl 3 rfl) ?_
    refine lv_iconst (v := 0) hx hb d_Model_defined_85 (by decide) ?_
    obtain ⟨r_3, h_2, hm⟩ := ob0_some hm
    have hFc := x_free0 hS hA
    refine va_calll (va_runV (As := [.long v2, .int 0]) (rest := []) ⟨hx, hb, hml, hown, hts⟩ (x_Model_member l dC dI cI cJ cB adK adV adA h v H.size n h_2) (cwV 2 hts (tw_GV tw_cons cw_Model_member lk_Model_101 in_Model_member sel_Model_member ini_Model) rfl rfl rfl ⟨rfl, hd_Model_member⟩ ⟨Nat.le_of_ble_eq_true rfl, Nat.le_of_ble_eq_true rfl⟩) (ypVr hK hP hS hE hFc yo_12 rfl) rfl rfl hl.1 rfl (lv_room (Nat.le_of_ble_eq_true rfl)) d_Model_defined_86 ⟨Nat.le_of_ble_eq_true rfl, Nat.le_of_ble_eq_true rfl⟩) hS (fun q _ h => hFc q h) hFc (fun r9 u9 t9 H locs ht hvm e9 hB hz1 hk1 hS => ?_)
    have e9 : r_3 = r9 := e9
    subst e9
    replace hP := x_keep hP hk1
    clear hFc hk1 hz1 hvm hB ht
    refine lv_goto (tgt := 93) hx hb d_Model_defined_89 (by decide) ?_
    exact lb_Model_defined_93 l dC dI cI cJ cB adK adV adA h v n hx hb hml hown hts hK hE hA hr hlocks _ _ _ _ _ _ _ _ hm _ _ _ hP hD hS (lv_sub hl [1, 2, 3, 0] rfl)
def m_Model_defined_b75 (n : Nat) (i : Nat → Int32) (j : Nat → Int64) (a : Nat → Nat → Int32) (b : Nat → Nat → Int64) (v1 : Int32) (v2 : Int64) : Option ((Nat → Int32) × (Nat → Int64) × (Nat → Nat → Int32) × (Nat → Nat → Int64) × Int64) := m_Model_defined_b76 n i j a b v1 v2 (0 : Int32)
set_option maxHeartbeats 4000000 in
set_option maxRecDepth 100000 in
theorem lb_Model_defined_75 (l : Launch) (dC : Nat → ClassId) (dI : Nat → Nat → Nat) (cI cJ cB : ClassId) (adK adV adA : Nat → Nat) (h : Nat) (v : Nat → Nat) (n : Nat) {p : Program} {e : Env} {s : State} {m : MethodId} {args : Array Value} {below : List Frame} {meth : Method} {c : Code} {A : Nat → Prop} (hx : p.tables.exec = Jvm.exec) (hb : c.code = b_Model_defined) (hml : c.maxLocals = 9) (hown : s.vm.findClass R_Model = some m.cls) (hts : ∀ w ∈ w_Model_defined, w.before args s = true) (hK : va_K (dC, dI) classes [(cI, .int), (cJ, .long), (cB, .byte)] s) (hE : tw_E adK adV adA A s s.heap) (hA : ∀ q : Nat, s.heap.size ≤ q → A q) (hr : meth.sig.returnType = (some .long)) (hlocks : meth.locks = false) {i2 : Nat → Int32} {j2 : Nat → Int64} {a2 : Nat → Nat → Int32} {b2 : Nat → Nat → Int64} {r2 : Int64} (i : Nat → Int32) (j : Nat → Int64) (a : Nat → Nat → Int32) (b : Nat → Nat → Int64) (v1 : Int32) (v2 : Int64) (hm : m_Model_defined_b75 n i j a b v1 v2 = some (i2, j2, a2, b2, r2)) : ∀ (H : Heap) (locs : List Loc) (ls : Array Slot), va_P (dC, dI) classes (MW cI cJ cB h v i j a b) H → va_D A (MW cI cJ cB h v i j a b) → va_S A s.heap H locs → lv_has ls 9 [(0, .ref h), (1, .int v1), (2, .long v2)] → W p l e ({ frames := 6, cells := 0, slots := 0, locals := 134 } : Room) s m args below meth c H locs 0 0 (MQ below (va_Ql (xR r2) (yB dC dI cI cJ cB h v i2 j2 a2 b2 A) A) args s 0 0 A) (F0 m 75 ls []) := by
  have htt : ∀ w ∈ tw_T, w.before _ s = true := fun w h => hts w (List.mem_cons_of_mem _ h)
  intro H locs ls hP hD hS hl
  rw [m_Model_defined_b75] at hm
  refine lv_iconst (v := 0) hx hb d_Model_defined_75 (by decide) ?_
  exact lb_Model_defined_76 l dC dI cI cJ cB adK adV adA h v n hx hb hml hown hts hK hE hA hr hlocks _ _ _ _ _ _ _ hm _ _ _ hP hD hS (lv_sub hl [0, 1, 2] rfl)
def m_Model_defined (n : Nat) (i : Nat → Int32) (j : Nat → Int64) (a : Nat → Nat → Int32) (b : Nat → Nat → Int64) (v1 : Int32) (v2 : Int64) : Option ((Nat → Int32) × (Nat → Int64) × (Nat → Nat → Int32) × (Nat → Nat → Int64) × Int64) := om (m_Model_isName n i j a b v1) (fun i_2 j_3 a_4 b_5 r_6 => if r_6 = ((0 : Int32)) then m_Model_defined_b75 n i_2 j_3 a_4 b_5 v1 v2 else ob0 (m_Model_size n i_2 j_3 a_4 b_5 v2) (fun r_9 => if r_9 = ((2 : Int32)) then ob0 (m_Model_member n i_2 j_3 a_4 b_5 v2 (0 : Int32)) (fun r_12 => ob0 (m_Model_isList n r_12) (fun r_14 => if r_14 = ((0 : Int32)) then m_Model_defined_b75 n i_2 j_3 a_4 b_5 v1 v2 else ob0 (m_Model_member n i_2 j_3 a_4 b_5 v2 (1 : Int32)) (fun r_17 => ob0 (m_Model_isList n r_17) (fun r_19 => if r_19 = ((0 : Int32)) then m_Model_defined_b75 n i_2 j_3 a_4 b_5 v1 v2 else ob0 (m_Model_member n i_2 j_3 a_4 b_5 v2 (0 : Int32)) (fun r_22 => ob0 (m_Model_size n i_2 j_3 a_4 b_5 r_22) (fun r_24 => if ((5 : Int32)) < r_24 then m_Model_defined_b75 n i_2 j_3 a_4 b_5 v1 v2 else ob0 (m_Model_member n i_2 j_3 a_4 b_5 v2 (1 : Int32)) (fun r_27 => ob0 (m_Model_sizeOf n i_2 j_3 a_4 b_5 r_27) (fun r_29 => if ((600 : Int32)) < r_29 then m_Model_defined_b75 n i_2 j_3 a_4 b_5 v1 v2 else m_Model_defined_b76 n i_2 j_3 a_4 b_5 v1 v2 (1 : Int32))))))))) else m_Model_defined_b75 n i_2 j_3 a_4 b_5 v1 v2))
set_option maxHeartbeats 4000000 in
set_option maxRecDepth 100000 in
theorem x_Model_defined (l : Launch) (dC : Nat → ClassId) (dI : Nat → Nat → Nat) (cI cJ cB : ClassId) (adK adV adA : Nat → Nat) (h : Nat) (v : Nat → Nat) (sz : Nat) (n : Nat) {i : Nat → Int32} {j : Nat → Int64} {a : Nat → Nat → Int32} {b : Nat → Nat → Int64} {v1 : Int32} {v2 : Int64} {i2 : Nat → Int32} {j2 : Nat → Int64} {a2 : Nat → Nat → Int32} {b2 : Nat → Nat → Int64} {r2 : Int64} (hm : m_Model_defined n i j a b v1 v2 = some (i2, j2, a2, b2, r2)) : Met l y_Model_defined w_Model_defined ({ frames := 6, cells := 0, slots := 0, locals := 134 } : Room) (va_Pc [.ref h, .int v1, .long v2] (yE dC dI cI cJ cB adK adV adA h v i j a b sz)) (va_Ql (xR r2) (yB dC dI cI cJ cB h v i2 j2 a2 b2 (va_A (MW cI cJ cB h v i j a b) sz)) (va_A (MW cI cJ cB h v i j a b) sz)) 0 0 ((va_A (MW cI cJ cB h v i j a b) sz)) := by
  refine Met.ofW (cc := b_Model_defined) (maxL := 9) (ret := (some .long)) (by decide) rfl ?_
  intro p e s m args below meth c s₁ B hml hv
  obtain ⟨rfl, hsz, hP, hK, hE, hD0⟩ := hv
  have hx := B.exec
  have hb := B.bytes
  have hr := B.returns
  have hts := atoms_spec (ws := w_Model_defined) B.pre
  have htt : ∀ w ∈ tw_T, w.before _ s = true := fun w h => hts w (List.mem_cons_of_mem _ h)
  have hown : s.vm.findClass R_Model = some m.cls := findClass_of_methodNamed B.named
  have hlocks := B.notSynchronized
  subst hsz
  have hD := hD0.self (sz := s.heap.size)
  generalize hAe : (va_A (MW cI cJ cB h v i j a b) s.heap.size) = A at hD hE ⊢
  have hA : ∀ q : Nat, s.heap.size ≤ q → A q := fun q h => by rw [← hAe]; exact Or.inr h
  have hS : va_S A s.heap s.heap [] := va_S.rf
  have hl := lv_entry ([.ref h, .int v1, .long v2]) (n := 9) (Nat.le_of_ble_eq_true rfl)
  rw [lg_entry_eq]
  generalize (lg_sl ([.ref h, .int v1, .long v2]) ++ List.replicate (9 - (lg_sl ([.ref h, .int v1, .long v2])).length) Slot.unset).toArray = ls at hl ⊢
  have hl : lv_has ls 9 [(0, .ref h), (1, .int v1), (2, .long v2)] := hl
  rw [m_Model_defined] at hm
  refine lv_aload_n hx hb d_Model_defined_0 rfl (lv_at hl 0 rfl) ?_
  refine lv_iload_n hx hb d_Model_defined_1 rfl (lv_at hl 1 rfl) ?_
  obtain ⟨i_2, j_3, a_4, b_5, r_6, h_1, hm⟩ := om_some hm
  have hFc := x_free hD hS hA
  refine va_calli (va_runV (As := [.int v1]) (rest := []) ⟨hx, hb, hml, hown, hts⟩ (x_Model_isName l dC dI cI cJ cB adK adV adA h v s.heap.size n h_1) (cwV 1 hts (tw_GV tw_cons cw_Model_isName lk_Model_485 in_Model_isName sel_Model_isName ini_Model) rfl rfl rfl ⟨rfl, hd_Model_isName⟩ ⟨Nat.le_of_ble_eq_true rfl, Nat.le_of_ble_eq_true rfl⟩) (ypV hK hP hD hS hE hFc yo_12 rfl) rfl rfl hl.1 rfl (lv_room (Nat.le_of_ble_eq_true rfl)) d_Model_defined_2 ⟨Nat.le_of_ble_eq_true rfl, Nat.le_of_ble_eq_true rfl⟩) hS (fun q _ h => hFc q h) hFc (fun r9 u9 t9 H locs ht hvm e9 hB hz1 hk1 hS => ?_)
  have e9 : r_6 = r9 := e9
  subst e9
  obtain ⟨hP, hD⟩ := y_aft hB ht hFc
  clear hFc hk1 hz1 hvm hB ht
  refine lv_if_eq (tgt := 75) hx hb d_Model_defined_5 (by decide) (fun c_7 => ?_) (fun c_7 => ?_)
  · replace hm := if_t c_7 hm
    exact lb_Model_defined_75 l dC dI cI cJ cB adK adV adA h v n hx hb hml hown hts hK hE hA hr hlocks _ _ _ _ _ _ hm _ _ _ hP hD hS (lv_sub hl [0, 1, 2] rfl)
  · replace hm := if_f c_7 hm
    refine lv_aload_n hx hb d_Model_defined_8 rfl (lv_at hl 0 rfl) ?_
    refine lv_lload_n hx hb d_Model_defined_9 rfl (lv_at hl 2 rfl) ?_
    obtain ⟨r_9, h_8, hm⟩ := ob0_some hm
    have hFc := x_free0 hS hA
    refine va_calli (va_runV (As := [.long v2]) (rest := []) ⟨hx, hb, hml, hown, hts⟩ (x_Model_size l dC dI cI cJ cB adK adV adA h v H.size n h_8) (cwV 1 hts (tw_GV tw_cons cw_Model_size lk_Model_98 in_Model_size sel_Model_size ini_Model) rfl rfl rfl ⟨rfl, hd_Model_size⟩ ⟨Nat.le_of_ble_eq_true rfl, Nat.le_of_ble_eq_true rfl⟩) (ypVr hK hP hS hE hFc yo_12 rfl) rfl rfl hl.1 rfl (lv_room (Nat.le_of_ble_eq_true rfl)) d_Model_defined_10 ⟨Nat.le_of_ble_eq_true rfl, Nat.le_of_ble_eq_true rfl⟩) hS (fun q _ h => hFc q h) hFc (fun r9 u9 t9 H locs ht hvm e9 hB hz1 hk1 hS => ?_)
    have e9 : r_9 = r9 := e9
    subst e9
    replace hP := x_keep hP hk1
    clear hFc hk1 hz1 hvm hB ht
    refine lv_iconst (v := 2) hx hb d_Model_defined_13 (by decide) ?_
    refine lv_icmp_ne (tgt := 75) hx hb d_Model_defined_14 (by decide) (fun c_10 => ?_) (fun c_10 => ?_)
    · replace hm := if_f c_10 hm
      exact lb_Model_defined_75 l dC dI cI cJ cB adK adV adA h v n hx hb hml hown hts hK hE hA hr hlocks _ _ _ _ _ _ hm _ _ _ hP hD hS (lv_sub hl [0, 1, 2] rfl)
    · replace hm := if_t c_10 hm
      refine lv_aload_n hx hb d_Model_defined_17 rfl (lv_at hl 0 rfl) ?_
      refine lv_lload_n hx hb d_Model_defined_18 rfl (lv_at hl 2 rfl) ?_
      refine lv_iconst (v := 0) hx hb d_Model_defined_19 (by decide) ?_
      obtain ⟨r_12, h_11, hm⟩ := ob0_some hm
      have hFc := x_free0 hS hA
      refine va_calll (va_runV (As := [.long v2, .int 0]) (rest := []) ⟨hx, hb, hml, hown, hts⟩ (x_Model_member l dC dI cI cJ cB adK adV adA h v H.size n h_11) (cwV 2 hts (tw_GV tw_cons cw_Model_member lk_Model_101 in_Model_member sel_Model_member ini_Model) rfl rfl rfl ⟨rfl, hd_Model_member⟩ ⟨Nat.le_of_ble_eq_true rfl, Nat.le_of_ble_eq_true rfl⟩) (ypVr hK hP hS hE hFc yo_12 rfl) rfl rfl hl.1 rfl (lv_room (Nat.le_of_ble_eq_true rfl)) d_Model_defined_20 ⟨Nat.le_of_ble_eq_true rfl, Nat.le_of_ble_eq_true rfl⟩) hS (fun q _ h => hFc q h) hFc (fun r9 u9 t9 H locs ht hvm e9 hB hz1 hk1 hS => ?_)
      have e9 : r_12 = r9 := e9
      subst e9
      replace hP := x_keep hP hk1
      clear hFc hk1 hz1 hvm hB ht
      obtain ⟨r_14, h_13, hm⟩ := ob0_some hm
      have hFc := x_free0 hS hA
      refine va_calli (va_runS (As := [.long r_12]) (rest := []) ⟨hx, hb, hml, hown, hts⟩ (x_Model_isList l H.size n h_13) (va_cwS 1 hts (tw_GS tw_cons cw_Model_isList lk_Model_95 st_Model_isList ini_Model) rfl rfl rfl hd_Model_isList ⟨Nat.le_of_ble_eq_true rfl, Nat.le_of_ble_eq_true rfl⟩) xpS0 rfl rfl hl.1 rfl (lv_room (Nat.le_of_ble_eq_true rfl)) d_Model_defined_23 ⟨Nat.le_of_ble_eq_true rfl, Nat.le_of_ble_eq_true rfl⟩) hS (fun q _ h => hFc q h) hFc (fun r9 u9 t9 H locs ht hvm e9 hB hz1 hk1 hS => ?_)
      have e9 : r_14 = r9 := e9
      subst e9
      replace hP := x_keep hP hk1
      clear hFc hk1 hz1 hvm hB ht
      refine lv_if_eq (tgt := 75) hx hb d_Model_defined_26 (by decide) (fun c_15 => ?_) (fun c_15 => ?_)
      · replace hm := if_t c_15 hm
        exact lb_Model_defined_75 l dC dI cI cJ cB adK adV adA h v n hx hb hml hown hts hK hE hA hr hlocks _ _ _ _ _ _ hm _ _ _ hP hD hS (lv_sub hl [0, 1, 2] rfl)
      · replace hm := if_f c_15 hm
        refine lv_aload_n hx hb d_Model_defined_29 rfl (lv_at hl 0 rfl) ?_
        refine lv_lload_n hx hb d_Model_defined_30 rfl (lv_at hl 2 rfl) ?_
        refine lv_iconst (v := 1) hx hb d_Model_defined_31 (by decide) ?_
        obtain ⟨r_17, h_16, hm⟩ := ob0_some hm
        have hFc := x_free0 hS hA
        refine va_calll (va_runV (As := [.long v2, .int 1]) (rest := []) ⟨hx, hb, hml, hown, hts⟩ (x_Model_member l dC dI cI cJ cB adK adV adA h v H.size n h_16) (cwV 2 hts (tw_GV tw_cons cw_Model_member lk_Model_101 in_Model_member sel_Model_member ini_Model) rfl rfl rfl ⟨rfl, hd_Model_member⟩ ⟨Nat.le_of_ble_eq_true rfl, Nat.le_of_ble_eq_true rfl⟩) (ypVr hK hP hS hE hFc yo_12 rfl) rfl rfl hl.1 rfl (lv_room (Nat.le_of_ble_eq_true rfl)) d_Model_defined_32 ⟨Nat.le_of_ble_eq_true rfl, Nat.le_of_ble_eq_true rfl⟩) hS (fun q _ h => hFc q h) hFc (fun r9 u9 t9 H locs ht hvm e9 hB hz1 hk1 hS => ?_)
        have e9 : r_17 = r9 := e9
        subst e9
        replace hP := x_keep hP hk1
        clear hFc hk1 hz1 hvm hB ht
        obtain ⟨r_19, h_18, hm⟩ := ob0_some hm
        have hFc := x_free0 hS hA
        refine va_calli (va_runS (As := [.long r_17]) (rest := []) ⟨hx, hb, hml, hown, hts⟩ (x_Model_isList l H.size n h_18) (va_cwS 1 hts (tw_GS tw_cons cw_Model_isList lk_Model_95 st_Model_isList ini_Model) rfl rfl rfl hd_Model_isList ⟨Nat.le_of_ble_eq_true rfl, Nat.le_of_ble_eq_true rfl⟩) xpS0 rfl rfl hl.1 rfl (lv_room (Nat.le_of_ble_eq_true rfl)) d_Model_defined_35 ⟨Nat.le_of_ble_eq_true rfl, Nat.le_of_ble_eq_true rfl⟩) hS (fun q _ h => hFc q h) hFc (fun r9 u9 t9 H locs ht hvm e9 hB hz1 hk1 hS => ?_)
        have e9 : r_19 = r9 := e9
        subst e9
        replace hP := x_keep hP hk1
        clear hFc hk1 hz1 hvm hB ht
        refine lv_if_eq (tgt := 75) hx hb d_Model_defined_38 (by decide) (fun c_20 => ?_) (fun c_20 => ?_)
        · replace hm := if_t c_20 hm
          exact lb_Model_defined_75 l dC dI cI cJ cB adK adV adA h v n hx hb hml hown hts hK hE hA hr hlocks _ _ _ _ _ _ hm _ _ _ hP hD hS (lv_sub hl [0, 1, 2] rfl)
        · replace hm := if_f c_20 hm
          refine lv_aload_n hx hb d_Model_defined_41 rfl (lv_at hl 0 rfl) ?_
          refine lv_aload_n hx hb d_Model_defined_42 rfl (lv_at hl 0 rfl) ?_
          refine lv_lload_n hx hb d_Model_defined_43 rfl (lv_at hl 2 rfl) ?_
          refine lv_iconst (v := 0) hx hb d_Model_defined_44 (by decide) ?_
          obtain ⟨r_22, h_21, hm⟩ := ob0_some hm
          have hFc := x_free0 hS hA
          refine va_calll (va_runV (As := [.long v2, .int 0]) (rest := [.ref h]) ⟨hx, hb, hml, hown, hts⟩ (x_Model_member l dC dI cI cJ cB adK adV adA h v H.size n h_21) (cwV 2 hts (tw_GV tw_cons cw_Model_member lk_Model_101 in_Model_member sel_Model_member ini_Model) rfl rfl rfl ⟨rfl, hd_Model_member⟩ ⟨Nat.le_of_ble_eq_true rfl, Nat.le_of_ble_eq_true rfl⟩) (ypVr hK hP hS hE hFc yo_12 rfl) rfl rfl hl.1 rfl (lv_room (Nat.le_of_ble_eq_true rfl)) d_Model_defined_45 ⟨Nat.le_of_ble_eq_true rfl, Nat.le_of_ble_eq_true rfl⟩) hS (fun q _ h => hFc q h) hFc (fun r9 u9 t9 H locs ht hvm e9 hB hz1 hk1 hS => ?_)
          have e9 : r_22 = r9 := e9
          subst e9
          replace hP := x_keep hP hk1
          clear hFc hk1 hz1 hvm hB ht
          obtain ⟨r_24, h_23, hm⟩ := ob0_some hm
          have hFc := x_free0 hS hA
          refine va_calli (va_runV (As := [.long r_22]) (rest := []) ⟨hx, hb, hml, hown, hts⟩ (x_Model_size l dC dI cI cJ cB adK adV adA h v H.size n h_23) (cwV 1 hts (tw_GV tw_cons cw_Model_size lk_Model_98 in_Model_size sel_Model_size ini_Model) rfl rfl rfl ⟨rfl, hd_Model_size⟩ ⟨Nat.le_of_ble_eq_true rfl, Nat.le_of_ble_eq_true rfl⟩) (ypVr hK hP hS hE hFc yo_12 rfl) rfl rfl hl.1 rfl (lv_room (Nat.le_of_ble_eq_true rfl)) d_Model_defined_48 ⟨Nat.le_of_ble_eq_true rfl, Nat.le_of_ble_eq_true rfl⟩) hS (fun q _ h => hFc q h) hFc (fun r9 u9 t9 H locs ht hvm e9 hB hz1 hk1 hS => ?_)
          have e9 : r_24 = r9 := e9
          subst e9
          replace hP := x_keep hP hk1
          clear hFc hk1 hz1 hvm hB ht
          refine lv_iconst (v := 5) hx hb d_Model_defined_51 (by decide) ?_
          refine lv_icmp_gt (tgt := 75) hx hb d_Model_defined_52 (by decide) (fun c_25 => ?_) (fun c_25 => ?_)
          · replace hm := if_t c_25 hm
            exact lb_Model_defined_75 l dC dI cI cJ cB adK adV adA h v n hx hb hml hown hts hK hE hA hr hlocks _ _ _ _ _ _ hm _ _ _ hP hD hS (lv_sub hl [0, 1, 2] rfl)
          · replace hm := if_f c_25 hm
            refine lv_aload_n hx hb d_Model_defined_55 rfl (lv_at hl 0 rfl) ?_
            refine lv_aload_n hx hb d_Model_defined_56 rfl (lv_at hl 0 rfl) ?_
            refine lv_lload_n hx hb d_Model_defined_57 rfl (lv_at hl 2 rfl) ?_
            refine lv_iconst (v := 1) hx hb d_Model_defined_58 (by decide) ?_
            obtain ⟨r_27, h_26, hm⟩ := ob0_some hm
            have hFc := x_free0 hS hA
            refine va_calll (va_runV (As := [.long v2, .int 1]) (rest := [.ref h]) ⟨hx, hb, hml, hown, hts⟩ (x_Model_member l dC dI cI cJ cB adK adV adA h v H.size n h_26) (cwV 2 hts (tw_GV tw_cons cw_Model_member lk_Model_101 in_Model_member sel_Model_member ini_Model) rfl rfl rfl ⟨rfl, hd_Model_member⟩ ⟨Nat.le_of_ble_eq_true rfl, Nat.le_of_ble_eq_true rfl⟩) (ypVr hK hP hS hE hFc yo_12 rfl) rfl rfl hl.1 rfl (lv_room (Nat.le_of_ble_eq_true rfl)) d_Model_defined_59 ⟨Nat.le_of_ble_eq_true rfl, Nat.le_of_ble_eq_true rfl⟩) hS (fun q _ h => hFc q h) hFc (fun r9 u9 t9 H locs ht hvm e9 hB hz1 hk1 hS => ?_)
            have e9 : r_27 = r9 := e9
            subst e9
            replace hP := x_keep hP hk1
            clear hFc hk1 hz1 hvm hB ht
            obtain ⟨r_29, h_28, hm⟩ := ob0_some hm
            have hFc := x_free0 hS hA
            refine va_calli (va_runV (As := [.long r_27]) (rest := []) ⟨hx, hb, hml, hown, hts⟩ (x_Model_sizeOf l dC dI cI cJ cB adK adV adA h v H.size n h_28) (cwV 1 hts (tw_GV tw_cons cw_Model_sizeOf lk_Model_38 in_Model_sizeOf sel_Model_sizeOf ini_Model) rfl rfl rfl ⟨rfl, hd_Model_sizeOf⟩ ⟨Nat.le_of_ble_eq_true rfl, Nat.le_of_ble_eq_true rfl⟩) (ypVr hK hP hS hE hFc yo_12 rfl) rfl rfl hl.1 rfl (lv_room (Nat.le_of_ble_eq_true rfl)) d_Model_defined_62 ⟨Nat.le_of_ble_eq_true rfl, Nat.le_of_ble_eq_true rfl⟩) hS (fun q _ h => hFc q h) hFc (fun r9 u9 t9 H locs ht hvm e9 hB hz1 hk1 hS => ?_)
            have e9 : r_29 = r9 := e9
            subst e9
            replace hP := x_keep hP hk1
            clear hFc hk1 hz1 hvm hB ht
            refine lv_sipush (v := 600) hx hb d_Model_defined_65 (by decide) ?_
            refine lv_icmp_gt (tgt := 75) hx hb d_Model_defined_68 (by decide) (fun c_30 => ?_) (fun c_30 => ?_)
            · replace hm := if_t c_30 hm
              exact lb_Model_defined_75 l dC dI cI cJ cB adK adV adA h v n hx hb hml hown hts hK hE hA hr hlocks _ _ _ _ _ _ hm _ _ _ hP hD hS (lv_sub hl [0, 1, 2] rfl)
            · replace hm := if_f c_30 hm
              refine lv_iconst (v := 1) hx hb d_Model_defined_71 (by decide) ?_
              refine lv_goto (tgt := 76) hx hb d_Model_defined_72 (by decide) ?_
              exact lb_Model_defined_76 l dC dI cI cJ cB adK adV adA h v n hx hb hml hown hts hK hE hA hr hlocks _ _ _ _ _ _ _ hm _ _ _ hP hD hS (lv_sub hl [0, 1, 2] rfl)
