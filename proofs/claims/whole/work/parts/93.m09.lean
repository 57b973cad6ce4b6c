theorem lk_Model_782 : Cond.methodLink "TurtleWorldModel" 782 ⟨"TurtleWorldModel", "show", "(JZ)V"⟩ ∈ tw_T := tw_i11 159 (by decide +kernel) (by decide +kernel)
theorem hd_Model_show : y_Model_show.cls ≠ "java/lang/invoke/MethodHandle" ∧ y_Model_show.cls ≠ "java/lang/invoke/VarHandle" ∧ (parseMethodDescriptor y_Model_show.desc).map (fun d => d.parameters.length) = some 2 := by decide +kernel
theorem in_Model_show : Cond.instanceMethod ⟨"TurtleWorldModel", "show", "(JZ)V"⟩ ∈ tw_T := tw_i11 161 (by decide +kernel) (by decide +kernel)
theorem sel_Model_show : Cond.selects "TurtleWorldModel" ⟨"TurtleWorldModel", "show", "(JZ)V"⟩ ⟨"TurtleWorldModel", "show", "(JZ)V"⟩ ∈ tw_T := tw_inS 162 (by decide +kernel) (by decide +kernel)
theorem hd_Model_within : y_Model_within.cls ≠ "java/lang/invoke/MethodHandle" ∧ y_Model_within.cls ≠ "java/lang/invoke/VarHandle" ∧ (parseMethodDescriptor y_Model_within.desc).map (fun d => d.parameters.length) = some 2 := by decide +kernel
theorem d_Model_values_0 : decode b_Model_values 0 = .ok (.aload_n 0, 1) := by decide +kernel
theorem d_Model_values_1 : decode b_Model_values 1 = .ok (.getfield 32, 3) := by decide +kernel
theorem d_Model_values_4 : decode b_Model_values 4 = .ok (.istore 6, 2) := by decide +kernel
theorem d_Model_values_6 : decode b_Model_values 6 = .ok (.iload_n 1, 1) := by decide +kernel
theorem d_Model_values_7 : decode b_Model_values 7 = .ok (.tableswitch 405 32 48 #[81, 90, 99, 108, 128, 146, 169, 260, 260, 198, 333, 351, 369, 387, 240, 405, 252], 81) := by decide +kernel
theorem d_Model_values_88 : decode b_Model_values 88 = .ok (.aload_n 0, 1) := by decide +kernel
theorem d_Model_values_89 : decode b_Model_values 89 = .ok (.lload_n 2, 1) := by decide +kernel
theorem d_Model_values_90 : decode b_Model_values 90 = .ok (.invokestatic 95, 3) := by decide +kernel
theorem d_Model_values_93 : decode b_Model_values 93 = .ok (.invokevirtual 721, 3) := by decide +kernel
theorem d_Model_values_96 : decode b_Model_values 96 = .ok (.lreturn, 1) := by decide +kernel
theorem d_Model_values_97 : decode b_Model_values 97 = .ok (.aload_n 0, 1) := by decide +kernel
theorem d_Model_values_98 : decode b_Model_values 98 = .ok (.lload_n 2, 1) := by decide +kernel
theorem d_Model_values_99 : decode b_Model_values 99 = .ok (.invokestatic 61, 3) := by decide +kernel
theorem d_Model_values_102 : decode b_Model_values 102 = .ok (.invokevirtual 721, 3) := by decide +kernel
theorem d_Model_values_105 : decode b_Model_values 105 = .ok (.lreturn, 1) := by decide +kernel
theorem d_Model_values_106 : decode b_Model_values 106 = .ok (.aload_n 0, 1) := by decide +kernel
theorem d_Model_values_107 : decode b_Model_values 107 = .ok (.lload_n 2, 1) := by decide +kernel
theorem d_Model_values_108 : decode b_Model_values 108 = .ok (.invokestatic 57, 3) := by decide +kernel
theorem d_Model_values_111 : decode b_Model_values 111 = .ok (.invokevirtual 721, 3) := by decide +kernel
theorem d_Model_values_114 : decode b_Model_values 114 = .ok (.lreturn, 1) := by decide +kernel
theorem d_Model_values_115 : decode b_Model_values 115 = .ok (.lload_n 2, 1) := by decide +kernel
theorem d_Model_values_116 : decode b_Model_values 116 = .ok (.invokestatic 95, 3) := by decide +kernel
theorem d_Model_values_119 : decode b_Model_values 119 = .ok (.ifCond .eq 11, 3) := by decide +kernel
theorem d_Model_values_122 : decode b_Model_values 122 = .ok (.aload_n 0, 1) := by decide +kernel
theorem d_Model_values_123 : decode b_Model_values 123 = .ok (.lload_n 2, 1) := by decide +kernel
theorem d_Model_values_124 : decode b_Model_values 124 = .ok (.invokevirtual 98, 3) := by decide +kernel
theorem d_Model_values_127 : decode b_Model_values 127 = .ok (.goto 4, 3) := by decide +kernel
theorem d_Model_values_130 : decode b_Model_values 130 = .ok (.iconst 1, 1) := by decide +kernel
theorem d_Model_values_131 : decode b_Model_values 131 = .ok (.invokestatic 451, 3) := by decide +kernel
theorem d_Model_values_134 : decode b_Model_values 134 = .ok (.lreturn, 1) := by decide +kernel
theorem d_Model_values_135 : decode b_Model_values 135 = .ok (.aload_n 0, 1) := by decide +kernel
theorem d_Model_values_136 : decode b_Model_values 136 = .ok (.aload_n 0, 1) := by decide +kernel
theorem d_Model_values_137 : decode b_Model_values 137 = .ok (.lload_n 2, 1) := by decide +kernel
theorem d_Model_values_138 : decode b_Model_values 138 = .ok (.invokevirtual 98, 3) := by decide +kernel
theorem d_Model_values_141 : decode b_Model_values 141 = .ok (.ifCond .ne 7, 3) := by decide +kernel
theorem d_Model_values_144 : decode b_Model_values 144 = .ok (.iconst 1, 1) := by decide +kernel
theorem d_Model_values_145 : decode b_Model_values 145 = .ok (.goto 4, 3) := by decide +kernel
theorem d_Model_values_148 : decode b_Model_values 148 = .ok (.iconst 0, 1) := by decide +kernel
theorem d_Model_values_149 : decode b_Model_values 149 = .ok (.invokevirtual 721, 3) := by decide +kernel
theorem d_Model_values_152 : decode b_Model_values 152 = .ok (.lreturn, 1) := by decide +kernel
theorem d_Model_values_153 : decode b_Model_values 153 = .ok (.aload_n 0, 1) := by decide +kernel
theorem d_Model_values_154 : decode b_Model_values 154 = .ok (.lload_n 2, 1) := by decide +kernel
theorem d_Model_values_155 : decode b_Model_values 155 = .ok (.invokevirtual 98, 3) := by decide +kernel
theorem d_Model_values_158 : decode b_Model_values 158 = .ok (.ifCond .ne 11, 3) := by decide +kernel
theorem d_Model_values_161 : decode b_Model_values 161 = .ok (.aload_n 0, 1) := by decide +kernel
theorem d_Model_values_162 : decode b_Model_values 162 = .ok (.iconst 3, 1) := by decide +kernel
theorem d_Model_values_163 : decode b_Model_values 163 = .ok (.invokevirtual 596, 3) := by decide +kernel
theorem d_Model_values_166 : decode b_Model_values 166 = .ok (.goto 9, 3) := by decide +kernel
theorem d_Model_values_169 : decode b_Model_values 169 = .ok (.aload_n 0, 1) := by decide +kernel
theorem d_Model_values_170 : decode b_Model_values 170 = .ok (.lload_n 2, 1) := by decide +kernel
theorem d_Model_values_171 : decode b_Model_values 171 = .ok (.iconst 0, 1) := by decide +kernel
theorem d_Model_values_172 : decode b_Model_values 172 = .ok (.invokevirtual 101, 3) := by decide +kernel
theorem d_Model_values_175 : decode b_Model_values 175 = .ok (.lreturn, 1) := by decide +kernel
theorem d_Model_values_176 : decode b_Model_values 176 = .ok (.aload_n 0, 1) := by decide +kernel
theorem d_Model_values_177 : decode b_Model_values 177 = .ok (.lload_n 2, 1) := by decide +kernel
theorem d_Model_values_178 : decode b_Model_values 178 = .ok (.invokevirtual 98, 3) := by decide +kernel
theorem d_Model_values_181 : decode b_Model_values 181 = .ok (.ifCond .ne 11, 3) := by decide +kernel
theorem d_Model_values_184 : decode b_Model_values 184 = .ok (.aload_n 0, 1) := by decide +kernel
theorem d_Model_values_185 : decode b_Model_values 185 = .ok (.iconst 3, 1) := by decide +kernel
theorem d_Model_values_186 : decode b_Model_values 186 = .ok (.invokevirtual 596, 3) := by decide +kernel
theorem d_Model_values_189 : decode b_Model_values 189 = .ok (.goto 15, 3) := by decide +kernel
theorem d_Model_values_192 : decode b_Model_values 192 = .ok (.aload_n 0, 1) := by decide +kernel
theorem d_Model_values_193 : decode b_Model_values 193 = .ok (.lload_n 2, 1) := by decide +kernel
theorem d_Model_values_194 : decode b_Model_values 194 = .ok (.aload_n 0, 1) := by decide +kernel
theorem d_Model_values_195 : decode b_Model_values 195 = .ok (.lload_n 2, 1) := by decide +kernel
theorem d_Model_values_196 : decode b_Model_values 196 = .ok (.invokevirtual 98, 3) := by decide +kernel
theorem d_Model_values_199 : decode b_Model_values 199 = .ok (.iconst 1, 1) := by decide +kernel
theorem d_Model_values_200 : decode b_Model_values 200 = .ok (.isub, 1) := by decide +kernel
theorem d_Model_values_201 : decode b_Model_values 201 = .ok (.invokevirtual 101, 3) := by decide +kernel
theorem d_Model_values_204 : decode b_Model_values 204 = .ok (.lreturn, 1) := by decide +kernel
theorem d_Model_values_205 : decode b_Model_values 205 = .ok (.lload_n 2, 1) := by decide +kernel
theorem d_Model_values_206 : decode b_Model_values 206 = .ok (.invokestatic 64, 3) := by decide +kernel
theorem d_Model_values_209 : decode b_Model_values 209 = .ok (.iconst 1, 1) := by decide +kernel
theorem d_Model_values_210 : decode b_Model_values 210 = .ok (.if_icmp .lt 16, 3) := by decide +kernel
theorem d_Model_values_213 : decode b_Model_values 213 = .ok (.lload_n 2, 1) := by decide +kernel
theorem d_Model_values_214 : decode b_Model_values 214 = .ok (.invokestatic 64, 3) := by decide +kernel
theorem d_Model_values_217 : decode b_Model_values 217 = .ok (.aload_n 0, 1) := by decide +kernel
theorem d_Model_values_218 : decode b_Model_values 218 = .ok (.lload 4, 2) := by decide +kernel
theorem d_Model_values_220 : decode b_Model_values 220 = .ok (.invokevirtual 98, 3) := by decide +kernel
theorem d_Model_values_223 : decode b_Model_values 223 = .ok (.if_icmp .le 11, 3) := by decide +kernel
theorem d_Model_values_226 : decode b_Model_values 226 = .ok (.aload_n 0, 1) := by decide +kernel
theorem d_Model_values_227 : decode b_Model_values 227 = .ok (.iconst 3, 1) := by decide +kernel
theorem d_Model_values_228 : decode b_Model_values 228 = .ok (.invokevirtual 596, 3) := by decide +kernel
theorem d_Model_values_231 : decode b_Model_values 231 = .ok (.goto 15, 3) := by decide +kernel
theorem d_Model_values_234 : decode b_Model_values 234 = .ok (.aload_n 0, 1) := by decide +kernel
theorem d_Model_values_235 : decode b_Model_values 235 = .ok (.lload 4, 2) := by decide +kernel
theorem d_Model_values_237 : decode b_Model_values 237 = .ok (.lload_n 2, 1) := by decide +kernel
theorem d_Model_values_238 : decode b_Model_values 238 = .ok (.invokestatic 64, 3) := by decide +kernel
theorem d_Model_values_241 : decode b_Model_values 241 = .ok (.iconst 1, 1) := by decide +kernel
theorem d_Model_values_242 : decode b_Model_values 242 = .ok (.isub, 1) := by decide +kernel
theorem d_Model_values_243 : decode b_Model_values 243 = .ok (.invokevirtual 101, 3) := by decide +kernel
theorem d_Model_values_246 : decode b_Model_values 246 = .ok (.lreturn, 1) := by decide +kernel
theorem d_Model_values_247 : decode b_Model_values 247 = .ok (.aload_n 0, 1) := by decide +kernel
theorem d_Model_values_248 : decode b_Model_values 248 = .ok (.aload_n 0, 1) := by decide +kernel
theorem d_Model_values_249 : decode b_Model_values 249 = .ok (.lload 4, 2) := by decide +kernel
theorem d_Model_values_251 : decode b_Model_values 251 = .ok (.lload_n 2, 1) := by decide +kernel
theorem d_Model_values_252 : decode b_Model_values 252 = .ok (.invokevirtual 741, 3) := by decide +kernel
theorem d_Model_values_255 : decode b_Model_values 255 = .ok (.invokevirtual 721, 3) := by decide +kernel
theorem d_Model_values_258 : decode b_Model_values 258 = .ok (.lreturn, 1) := by decide +kernel
theorem d_Model_values_259 : decode b_Model_values 259 = .ok (.aload_n 0, 1) := by decide +kernel
theorem d_Model_values_260 : decode b_Model_values 260 = .ok (.lload_n 2, 1) := by decide +kernel
theorem d_Model_values_261 : decode b_Model_values 261 = .ok (.lload 4, 2) := by decide +kernel
theorem d_Model_values_263 : decode b_Model_values 263 = .ok (.invokevirtual 744, 3) := by decide +kernel
theorem d_Model_values_266 : decode b_Model_values 266 = .ok (.lreturn, 1) := by decide +kernel
theorem d_Model_values_267 : decode b_Model_values 267 = .ok (.aload_n 0, 1) := by decide +kernel
theorem d_Model_values_268 : decode b_Model_values 268 = .ok (.lload_n 2, 1) := by decide +kernel
theorem d_Model_values_269 : decode b_Model_values 269 = .ok (.invokevirtual 98, 3) := by decide +kernel
theorem d_Model_values_272 : decode b_Model_values 272 = .ok (.ifCond .ne 9, 3) := by decide +kernel
theorem d_Model_values_275 : decode b_Model_values 275 = .ok (.aload_n 0, 1) := by decide +kernel
theorem d_Model_values_276 : decode b_Model_values 276 = .ok (.iconst 3, 1) := by decide +kernel
theorem d_Model_values_277 : decode b_Model_values 277 = .ok (.invokevirtual 596, 3) := by decide +kernel
theorem d_Model_values_280 : decode b_Model_values 280 = .ok (.lreturn, 1) := by decide +kernel
theorem d_Model_values_281 : decode b_Model_values 281 = .ok (.iload_n 1, 1) := by decide +kernel
theorem d_Model_values_282 : decode b_Model_values 282 = .ok (.bipush 39, 2) := by decide +kernel
theorem d_Model_values_284 : decode b_Model_values 284 = .ok (.if_icmp .ne 7, 3) := by decide +kernel
theorem d_Model_values_287 : decode b_Model_values 287 = .ok (.iconst 1, 1) := by decide +kernel
theorem d_Model_values_288 : decode b_Model_values 288 = .ok (.goto 4, 3) := by decide +kernel
theorem d_Model_values_291 : decode b_Model_values 291 = .ok (.iconst 0, 1) := by decide +kernel
theorem d_Model_values_292 : decode b_Model_values 292 = .ok (.istore 7, 2) := by decide +kernel
theorem d_Model_values_294 : decode b_Model_values 294 = .ok (.iload 7, 2) := by decide +kernel
theorem d_Model_values_296 : decode b_Model_values 296 = .ok (.aload_n 0, 1) := by decide +kernel
theorem d_Model_values_297 : decode b_Model_values 297 = .ok (.lload_n 2, 1) := by decide +kernel
theorem d_Model_values_298 : decode b_Model_values 298 = .ok (.invokevirtual 98, 3) := by decide +kernel
theorem d_Model_values_301 : decode b_Model_values 301 = .ok (.iload_n 1, 1) := by decide +kernel
theorem d_Model_values_302 : decode b_Model_values 302 = .ok (.bipush 40, 2) := by decide +kernel
theorem d_Model_values_304 : decode b_Model_values 304 = .ok (.if_icmp .ne 7, 3) := by decide +kernel
theorem d_Model_values_307 : decode b_Model_values 307 = .ok (.iconst 1, 1) := by decide +kernel
theorem d_Model_values_308 : decode b_Model_values 308 = .ok (.goto 4, 3) := by decide +kernel
theorem d_Model_values_311 : decode b_Model_values 311 = .ok (.iconst 0, 1) := by decide +kernel
theorem d_Model_values_312 : decode b_Model_values 312 = .ok (.isub, 1) := by decide +kernel
theorem d_Model_values_313 : decode b_Model_values 313 = .ok (.if_icmp .ge 20, 3) := by decide +kernel
theorem d_Model_values_316 : decode b_Model_values 316 = .ok (.aload_n 0, 1) := by decide +kernel
theorem d_Model_values_317 : decode b_Model_values 317 = .ok (.aload_n 0, 1) := by decide +kernel
theorem d_Model_values_318 : decode b_Model_values 318 = .ok (.lload_n 2, 1) := by decide +kernel
theorem d_Model_values_319 : decode b_Model_values 319 = .ok (.iload 7, 2) := by decide +kernel
theorem d_Model_values_321 : decode b_Model_values 321 = .ok (.invokevirtual 101, 3) := by decide +kernel
theorem d_Model_values_324 : decode b_Model_values 324 = .ok (.invokevirtual 465, 3) := by decide +kernel
theorem d_Model_values_327 : decode b_Model_values 327 = .ok (.iinc 7 1, 3) := by decide +kernel
theorem d_Model_values_330 : decode b_Model_values 330 = .ok (.goto (-36), 3) := by decide +kernel
theorem d_Model_values_333 : decode b_Model_values 333 = .ok (.aload_n 0, 1) := by decide +kernel
theorem d_Model_values_334 : decode b_Model_values 334 = .ok (.iload 6, 2) := by decide +kernel
theorem d_Model_values_336 : decode b_Model_values 336 = .ok (.invokevirtual 747, 3) := by decide +kernel
theorem d_Model_values_339 : decode b_Model_values 339 = .ok (.lreturn, 1) := by decide +kernel
theorem d_Model_values_340 : decode b_Model_values 340 = .ok (.aload_n 0, 1) := by decide +kernel
theorem d_Model_values_341 : decode b_Model_values 341 = .ok (.lload_n 2, 1) := by decide +kernel
theorem d_Model_values_342 : decode b_Model_values 342 = .ok (.invokevirtual 465, 3) := by decide +kernel
theorem d_Model_values_345 : decode b_Model_values 345 = .ok (.aload_n 0, 1) := by decide +kernel
theorem d_Model_values_346 : decode b_Model_values 346 = .ok (.lload 4, 2) := by decide +kernel
theorem d_Model_values_348 : decode b_Model_values 348 = .ok (.invokevirtual 750, 3) := by decide +kernel
theorem d_Model_values_351 : decode b_Model_values 351 = .ok (.aload_n 0, 1) := by decide +kernel
theorem d_Model_values_352 : decode b_Model_values 352 = .ok (.iload 6, 2) := by decide +kernel
theorem d_Model_values_354 : decode b_Model_values 354 = .ok (.invokevirtual 747, 3) := by decide +kernel
theorem d_Model_values_357 : decode b_Model_values 357 = .ok (.lreturn, 1) := by decide +kernel
theorem d_Model_values_358 : decode b_Model_values 358 = .ok (.aload_n 0, 1) := by decide +kernel
theorem d_Model_values_359 : decode b_Model_values 359 = .ok (.lload 4, 2) := by decide +kernel
theorem d_Model_values_361 : decode b_Model_values 361 = .ok (.invokevirtual 750, 3) := by decide +kernel
theorem d_Model_values_364 : decode b_Model_values 364 = .ok (.aload_n 0, 1) := by decide +kernel
theorem d_Model_values_365 : decode b_Model_values 365 = .ok (.lload_n 2, 1) := by decide +kernel
theorem d_Model_values_366 : decode b_Model_values 366 = .ok (.invokevirtual 465, 3) := by decide +kernel
theorem d_Model_values_369 : decode b_Model_values 369 = .ok (.aload_n 0, 1) := by decide +kernel
theorem d_Model_values_370 : decode b_Model_values 370 = .ok (.iload 6, 2) := by decide +kernel
theorem d_Model_values_372 : decode b_Model_values 372 = .ok (.invokevirtual 747, 3) := by decide +kernel
theorem d_Model_values_375 : decode b_Model_values 375 = .ok (.lreturn, 1) := by decide +kernel
theorem d_Model_values_376 : decode b_Model_values 376 = .ok (.aload_n 0, 1) := by decide +kernel
theorem d_Model_values_377 : decode b_Model_values 377 = .ok (.lload_n 2, 1) := by decide +kernel
theorem d_Model_values_378 : decode b_Model_values 378 = .ok (.invokevirtual 750, 3) := by decide +kernel
theorem d_Model_values_381 : decode b_Model_values 381 = .ok (.aload_n 0, 1) := by decide +kernel
theorem d_Model_values_382 : decode b_Model_values 382 = .ok (.lload 4, 2) := by decide +kernel
theorem d_Model_values_384 : decode b_Model_values 384 = .ok (.invokevirtual 750, 3) := by decide +kernel
theorem d_Model_values_387 : decode b_Model_values 387 = .ok (.aload_n 0, 1) := by decide +kernel
theorem d_Model_values_388 : decode b_Model_values 388 = .ok (.iload 6, 2) := by decide +kernel
theorem d_Model_values_390 : decode b_Model_values 390 = .ok (.invokevirtual 747, 3) := by decide +kernel
theorem d_Model_values_393 : decode b_Model_values 393 = .ok (.lreturn, 1) := by decide +kernel
theorem d_Model_values_394 : decode b_Model_values 394 = .ok (.aload_n 0, 1) := by decide +kernel
theorem d_Model_values_395 : decode b_Model_values 395 = .ok (.lload_n 2, 1) := by decide +kernel
theorem d_Model_values_396 : decode b_Model_values 396 = .ok (.invokevirtual 465, 3) := by decide +kernel
theorem d_Model_values_399 : decode b_Model_values 399 = .ok (.aload_n 0, 1) := by decide +kernel
theorem d_Model_values_400 : decode b_Model_values 400 = .ok (.lload 4, 2) := by decide +kernel
theorem d_Model_values_402 : decode b_Model_values 402 = .ok (.invokevirtual 465, 3) := by decide +kernel
theorem d_Model_values_405 : decode b_Model_values 405 = .ok (.aload_n 0, 1) := by decide +kernel
theorem d_Model_values_406 : decode b_Model_values 406 = .ok (.iload 6, 2) := by decide +kernel
theorem d_Model_values_408 : decode b_Model_values 408 = .ok (.invokevirtual 747, 3) := by decide +kernel
theorem d_Model_values_411 : decode b_Model_values 411 = .ok (.lreturn, 1) := by decide +kernel
theorem d_Model_values_412 : decode b_Model_values 412 = .ok (.aload_n 0, 1) := by decide +kernel
theorem d_Model_values_413 : decode b_Model_values 413 = .ok (.lload_n 2, 1) := by decide +kernel
theorem d_Model_values_414 : decode b_Model_values 414 = .ok (.invokevirtual 98, 3) := by decide +kernel
theorem d_Model_values_417 : decode b_Model_values 417 = .ok (.iconst 1, 1) := by decide +kernel
theorem d_Model_values_418 : decode b_Model_values 418 = .ok (.isub, 1) := by decide +kernel
theorem d_Model_values_419 : decode b_Model_values 419 = .ok (.istore 7, 2) := by decide +kernel
theorem d_Model_values_421 : decode b_Model_values 421 = .ok (.iload 7, 2) := by decide +kernel
theorem d_Model_values_423 : decode b_Model_values 423 = .ok (.ifCond .lt 20, 3) := by decide +kernel
theorem d_Model_values_426 : decode b_Model_values 426 = .ok (.aload_n 0, 1) := by decide +kernel
theorem d_Model_values_427 : decode b_Model_values 427 = .ok (.aload_n 0, 1) := by decide +kernel
theorem d_Model_values_428 : decode b_Model_values 428 = .ok (.lload_n 2, 1) := by decide +kernel
theorem d_Model_values_429 : decode b_Model_values 429 = .ok (.iload 7, 2) := by decide +kernel
theorem d_Model_values_431 : decode b_Model_values 431 = .ok (.invokevirtual 101, 3) := by decide +kernel
theorem d_Model_values_434 : decode b_Model_values 434 = .ok (.invokevirtual 465, 3) := by decide +kernel
theorem d_Model_values_437 : decode b_Model_values 437 = .ok (.iinc 7 (-1), 3) := by decide +kernel
theorem d_Model_values_440 : decode b_Model_values 440 = .ok (.goto (-19), 3) := by decide +kernel
theorem d_Model_values_443 : decode b_Model_values 443 = .ok (.aload_n 0, 1) := by decide +kernel
theorem d_Model_values_444 : decode b_Model_values 444 = .ok (.iload 6, 2) := by decide +kernel
theorem d_Model_values_446 : decode b_Model_values 446 = .ok (.invokevirtual 747, 3) := by decide +kernel
theorem d_Model_values_449 : decode b_Model_values 449 = .ok (.lreturn, 1) := by decide +kernel
theorem lk_Model_747 : Cond.methodLink "TurtleWorldModel" 747 ⟨"TurtleWorldModel", "listed", "(I)J"⟩ ∈ tw_T := tw_i11 106 (by decide +kernel) (by decide +kernel)
theorem hd_Model_listed : y_Model_listed.cls ≠ "java/lang/invoke/MethodHandle" ∧ y_Model_listed.cls ≠ "java/lang/invoke/VarHandle" ∧ (parseMethodDescriptor y_Model_listed.desc).map (fun d => d.parameters.length) = some 1 := by decide +kernel
theorem in_Model_listed : Cond.instanceMethod ⟨"TurtleWorldModel", "listed", "(I)J"⟩ ∈ tw_T := tw_i11 108 (by decide +kernel) (by decide +kernel)
theorem sel_Model_listed : Cond.selects "TurtleWorldModel" ⟨"TurtleWorldModel", "listed", "(I)J"⟩ ⟨"TurtleWorldModel", "listed", "(I)J"⟩ ∈ tw_T := tw_inS 149 (by decide +kernel) (by decide +kernel)
theorem lk_Model_750 : Cond.methodLink "TurtleWorldModel" 750 ⟨"TurtleWorldModel", "putAll", "(J)V"⟩ ∈ tw_T := tw_i11 110 (by decide +kernel) (by decide +kernel)
theorem hd_Model_putAll : y_Model_putAll.cls ≠ "java/lang/invoke/MethodHandle" ∧ y_Model_putAll.cls ≠ "java/lang/invoke/VarHandle" ∧ (parseMethodDescriptor y_Model_putAll.desc).map (fun d => d.parameters.length) = some 1 := by decide +kernel
theorem in_Model_putAll : Cond.instanceMethod ⟨"TurtleWorldModel", "putAll", "(J)V"⟩ ∈ tw_T := tw_i11 112 (by decide +kernel) (by decide +kernel)
theorem sel_Model_putAll : Cond.selects "TurtleWorldModel" ⟨"TurtleWorldModel", "putAll", "(J)V"⟩ ⟨"TurtleWorldModel", "putAll", "(J)V"⟩ ∈ tw_T := tw_inS 150 (by decide +kernel) (by decide +kernel)
theorem lk_Model_741 : Cond.methodLink "TurtleWorldModel" 741 ⟨"TurtleWorldModel", "holds", "(JJ)Z"⟩ ∈ tw_T := tw_i11 79 (by decide +kernel) (by decide +kernel)
theorem hd_Model_holds : y_Model_holds.cls ≠ "java/lang/invoke/MethodHandle" ∧ y_Model_holds.cls ≠ "java/lang/invoke/VarHandle" ∧ (parseMethodDescriptor y_Model_holds.desc).map (fun d => d.parameters.length) = some 2 := by decide +kernel
theorem in_Model_holds : Cond.instanceMethod ⟨"TurtleWorldModel", "holds", "(JJ)Z"⟩ ∈ tw_T := tw_i11 81 (by decide +kernel) (by decide +kernel)
theorem sel_Model_holds : Cond.selects "TurtleWorldModel" ⟨"TurtleWorldModel", "holds", "(JJ)Z"⟩ ⟨"TurtleWorldModel", "holds", "(JJ)Z"⟩ ∈ tw_T := tw_inS 143 (by decide +kernel) (by decide +kernel)
theorem lk_Model_744 : Cond.methodLink "TurtleWorldModel" 744 ⟨"TurtleWorldModel", "joined", "(JJ)J"⟩ ∈ tw_T := tw_i11 83 (by decide +kernel) (by decide +kernel)
theorem hd_Model_joined : y_Model_joined.cls ≠ "java/lang/invoke/MethodHandle" ∧ y_Model_joined.cls ≠ "java/lang/invoke/VarHandle" ∧ (parseMethodDescriptor y_Model_joined.desc).map (fun d => d.parameters.length) = some 2 := by decide +kernel
theorem in_Model_joined : Cond.instanceMethod ⟨"TurtleWorldModel", "joined", "(JJ)J"⟩ ∈ tw_T := tw_i11 85 (by decide +kernel) (by decide +kernel)
theorem sel_Model_joined : Cond.selects "TurtleWorldModel" ⟨"TurtleWorldModel", "joined", "(JJ)J"⟩ ⟨"TurtleWorldModel", "joined", "(JJ)J"⟩ ∈ tw_T := tw_inS 144 (by decide +kernel) (by decide +kernel)
theorem d_Model_named_0 : decode b_Model_named 0 = .ok (.lload_n 2, 1) := by decide +kernel
theorem d_Model_named_1 : decode b_Model_named 1 = .ok (.invokestatic 64, 3) := by decide +kernel
theorem d_Model_named_4 : decode b_Model_named 4 = .ok (.istore 6, 2) := by decide +kernel
theorem d_Model_named_6 : decode b_Model_named 6 = .ok (.iload_n 1, 1) := by decide +kernel
theorem d_Model_named_7 : decode b_Model_named 7 = .ok (.tableswitch 166 49 54 #[37, 45, 51, 70, 128, 137], 37) := by decide +kernel
theorem d_Model_named_44 : decode b_Model_named 44 = .ok (.aload_n 0, 1) := by decide +kernel
theorem d_Model_named_45 : decode b_Model_named 45 = .ok (.lload_n 2, 1) := by decide +kernel
theorem d_Model_named_46 : decode b_Model_named 46 = .ok (.lload 4, 2) := by decide +kernel
theorem d_Model_named_48 : decode b_Model_named 48 = .ok (.invokevirtual 753, 3) := by decide +kernel
theorem d_Model_named_51 : decode b_Model_named 51 = .ok (.lreturn, 1) := by decide +kernel
theorem d_Model_named_52 : decode b_Model_named 52 = .ok (.aload_n 0, 1) := by decide +kernel
theorem d_Model_named_53 : decode b_Model_named 53 = .ok (.lload_n 2, 1) := by decide +kernel
theorem d_Model_named_54 : decode b_Model_named 54 = .ok (.invokevirtual 756, 3) := by decide +kernel
theorem d_Model_named_57 : decode b_Model_named 57 = .ok (.lreturn, 1) := by decide +kernel
theorem d_Model_named_58 : decode b_Model_named 58 = .ok (.aload_n 0, 1) := by decide +kernel
theorem d_Model_named_59 : decode b_Model_named 59 = .ok (.aload_n 0, 1) := by decide +kernel
theorem d_Model_named_60 : decode b_Model_named 60 = .ok (.getfield 15, 3) := by decide +kernel
theorem d_Model_named_63 : decode b_Model_named 63 = .ok (.iload 6, 2) := by decide +kernel
theorem d_Model_named_65 : decode b_Model_named 65 = .ok (.iaload, 1) := by decide +kernel
theorem d_Model_named_66 : decode b_Model_named 66 = .ok (.aload_n 0, 1) := by decide +kernel
theorem d_Model_named_67 : decode b_Model_named 67 = .ok (.getfield 22, 3) := by decide +kernel
theorem d_Model_named_70 : decode b_Model_named 70 = .ok (.iload 6, 2) := by decide +kernel
theorem d_Model_named_72 : decode b_Model_named 72 = .ok (.iaload, 1) := by decide +kernel
theorem d_Model_named_73 : decode b_Model_named 73 = .ok (.invokevirtual 605, 3) := by decide +kernel
theorem d_Model_named_76 : decode b_Model_named 76 = .ok (.lreturn, 1) := by decide +kernel
theorem d_Model_named_77 : decode b_Model_named 77 = .ok (.aload_n 0, 1) := by decide +kernel
theorem d_Model_named_78 : decode b_Model_named 78 = .ok (.aload_n 0, 1) := by decide +kernel
theorem d_Model_named_79 : decode b_Model_named 79 = .ok (.getfield 15, 3) := by decide +kernel
theorem d_Model_named_82 : decode b_Model_named 82 = .ok (.iload 6, 2) := by decide +kernel
theorem d_Model_named_84 : decode b_Model_named 84 = .ok (.iaload, 1) := by decide +kernel
theorem d_Model_named_85 : decode b_Model_named 85 = .ok (.aload_n 0, 1) := by decide +kernel
theorem d_Model_named_86 : decode b_Model_named 86 = .ok (.getfield 22, 3) := by decide +kernel
theorem d_Model_named_89 : decode b_Model_named 89 = .ok (.iload 6, 2) := by decide +kernel
theorem d_Model_named_91 : decode b_Model_named 91 = .ok (.iaload, 1) := by decide +kernel
theorem d_Model_named_92 : decode b_Model_named 92 = .ok (.invokevirtual 639, 3) := by decide +kernel
theorem d_Model_named_95 : decode b_Model_named 95 = .ok (.istore 7, 2) := by decide +kernel
theorem d_Model_named_97 : decode b_Model_named 97 = .ok (.aload_n 0, 1) := by decide +kernel
theorem d_Model_named_98 : decode b_Model_named 98 = .ok (.iload 7, 2) := by decide +kernel
theorem d_Model_named_100 : decode b_Model_named 100 = .ok (.iconst (-1), 1) := by decide +kernel
theorem d_Model_named_101 : decode b_Model_named 101 = .ok (.if_icmp .eq 29, 3) := by decide +kernel
theorem d_Model_named_104 : decode b_Model_named 104 = .ok (.iload 7, 2) := by decide +kernel
theorem d_Model_named_106 : decode b_Model_named 106 = .ok (.sipush 10000, 3) := by decide +kernel
theorem d_Model_named_109 : decode b_Model_named 109 = .ok (.if_icmp .ge 17, 3) := by decide +kernel
theorem d_Model_named_112 : decode b_Model_named 112 = .ok (.aload_n 0, 1) := by decide +kernel
theorem d_Model_named_113 : decode b_Model_named 113 = .ok (.getfield 313, 3) := by decide +kernel
theorem d_Model_named_116 : decode b_Model_named 116 = .ok (.iload 7, 2) := by decide +kernel
theorem d_Model_named_118 : decode b_Model_named 118 = .ok (.laload, 1) := by decide +kernel
theorem d_Model_named_119 : decode b_Model_named 119 = .ok (.ldc2_w 7, 3) := by decide +kernel
theorem d_Model_named_122 : decode b_Model_named 122 = .ok (.lcmp, 1) := by decide +kernel
theorem d_Model_named_123 : decode b_Model_named 123 = .ok (.ifCond .eq 7, 3) := by decide +kernel
theorem d_Model_named_126 : decode b_Model_named 126 = .ok (.iconst 1, 1) := by decide +kernel
theorem d_Model_named_127 : decode b_Model_named 127 = .ok (.goto 4, 3) := by decide +kernel
theorem d_Model_named_130 : decode b_Model_named 130 = .ok (.iconst 0, 1) := by decide +kernel
theorem d_Model_named_131 : decode b_Model_named 131 = .ok (.invokevirtual 721, 3) := by decide +kernel
theorem d_Model_named_134 : decode b_Model_named 134 = .ok (.lreturn, 1) := by decide +kernel
theorem d_Model_named_135 : decode b_Model_named 135 = .ok (.aload_n 0, 1) := by decide +kernel
theorem d_Model_named_136 : decode b_Model_named 136 = .ok (.iload 6, 2) := by decide +kernel
theorem d_Model_named_138 : decode b_Model_named 138 = .ok (.lload 4, 2) := by decide +kernel
theorem d_Model_named_140 : decode b_Model_named 140 = .ok (.invokevirtual 759, 3) := by decide +kernel
theorem d_Model_named_143 : decode b_Model_named 143 = .ok (.lreturn, 1) := by decide +kernel
theorem d_Model_named_144 : decode b_Model_named 144 = .ok (.aload_n 0, 1) := by decide +kernel
theorem d_Model_named_145 : decode b_Model_named 145 = .ok (.iload 6, 2) := by decide +kernel
theorem d_Model_named_147 : decode b_Model_named 147 = .ok (.invokevirtual 488, 3) := by decide +kernel
theorem d_Model_named_150 : decode b_Model_named 150 = .ok (.istore 7, 2) := by decide +kernel
theorem d_Model_named_152 : decode b_Model_named 152 = .ok (.iload 7, 2) := by decide +kernel
theorem d_Model_named_154 : decode b_Model_named 154 = .ok (.iconst (-1), 1) := by decide +kernel
theorem d_Model_named_155 : decode b_Model_named 155 = .ok (.if_icmp .ne 7, 3) := by decide +kernel
theorem d_Model_named_158 : decode b_Model_named 158 = .ok (.iconst (-1), 1) := by decide +kernel
theorem d_Model_named_159 : decode b_Model_named 159 = .ok (.goto 10, 3) := by decide +kernel
theorem d_Model_named_162 : decode b_Model_named 162 = .ok (.aload_n 0, 1) := by decide +kernel
theorem d_Model_named_163 : decode b_Model_named 163 = .ok (.getfield 186, 3) := by decide +kernel
theorem d_Model_named_166 : decode b_Model_named 166 = .ok (.iload 7, 2) := by decide +kernel
theorem d_Model_named_168 : decode b_Model_named 168 = .ok (.iaload, 1) := by decide +kernel
theorem d_Model_named_169 : decode b_Model_named 169 = .ok (.invokestatic 451, 3) := by decide +kernel
theorem d_Model_named_172 : decode b_Model_named 172 = .ok (.lreturn, 1) := by decide +kernel
theorem d_Model_named_173 : decode b_Model_named 173 = .ok (.aload_n 0, 1) := by decide +kernel
theorem d_Model_named_174 : decode b_Model_named 174 = .ok (.iload 6, 2) := by decide +kernel
theorem d_Model_named_176 : decode b_Model_named 176 = .ok (.invokevirtual 488, 3) := by decide +kernel
theorem d_Model_named_179 : decode b_Model_named 179 = .ok (.istore 7, 2) := by decide +kernel
theorem d_Model_named_181 : decode b_Model_named 181 = .ok (.iload 7, 2) := by decide +kernel
theorem d_Model_named_183 : decode b_Model_named 183 = .ok (.iconst (-1), 1) := by decide +kernel
theorem d_Model_named_184 : decode b_Model_named 184 = .ok (.if_icmp .ne 11, 3) := by decide +kernel
theorem d_Model_named_187 : decode b_Model_named 187 = .ok (.aload_n 0, 1) := by decide +kernel
theorem d_Model_named_188 : decode b_Model_named 188 = .ok (.iconst 1, 1) := by decide +kernel
theorem d_Model_named_189 : decode b_Model_named 189 = .ok (.invokevirtual 596, 3) := by decide +kernel
theorem d_Model_named_192 : decode b_Model_named 192 = .ok (.goto 10, 3) := by decide +kernel
theorem d_Model_named_195 : decode b_Model_named 195 = .ok (.aload_n 0, 1) := by decide +kernel
theorem d_Model_named_196 : decode b_Model_named 196 = .ok (.getfield 192, 3) := by decide +kernel
theorem d_Model_named_199 : decode b_Model_named 199 = .ok (.iload 7, 2) := by decide +kernel
theorem d_Model_named_201 : decode b_Model_named 201 = .ok (.laload, 1) := by decide +kernel
theorem d_Model_named_202 : decode b_Model_named 202 = .ok (.lreturn, 1) := by decide +kernel
theorem lk_Model_753 : Cond.methodLink "TurtleWorldModel" 753 ⟨"TurtleWorldModel", "make", "(JJ)J"⟩ ∈ tw_T := tw_i11 118 (by decide +kernel) (by decide +kernel)
theorem hd_Model_make : y_Model_make.cls ≠ "java/lang/invoke/MethodHandle" ∧ y_Model_make.cls ≠ "java/lang/invoke/VarHandle" ∧ (parseMethodDescriptor y_Model_make.desc).map (fun d => d.parameters.length) = some 2 := by decide +kernel
theorem in_Model_make : Cond.instanceMethod ⟨"TurtleWorldModel", "make", "(JJ)J"⟩ ∈ tw_T := tw_i11 120 (by decide +kernel) (by decide +kernel)
theorem sel_Model_make : Cond.selects "TurtleWorldModel" ⟨"TurtleWorldModel", "make", "(JJ)J"⟩ ⟨"TurtleWorldModel", "make", "(JJ)J"⟩ ∈ tw_T := tw_inS 152 (by decide +kernel) (by decide +kernel)
theorem lk_Model_756 : Cond.methodLink "TurtleWorldModel" 756 ⟨"TurtleWorldModel", "local", "(J)J"⟩ ∈ tw_T := tw_i11 122 (by decide +kernel) (by decide +kernel)
theorem hd_Model_local : y_Model_local.cls ≠ "java/lang/invoke/MethodHandle" ∧ y_Model_local.cls ≠ "java/lang/invoke/VarHandle" ∧ (parseMethodDescriptor y_Model_local.desc).map (fun d => d.parameters.length) = some 1 := by decide +kernel
theorem in_Model_local : Cond.instanceMethod ⟨"TurtleWorldModel", "local", "(J)J"⟩ ∈ tw_T := tw_i11 124 (by decide +kernel) (by decide +kernel)
theorem sel_Model_local : Cond.selects "TurtleWorldModel" ⟨"TurtleWorldModel", "local", "(J)J"⟩ ⟨"TurtleWorldModel", "local", "(J)J"⟩ ∈ tw_T := tw_inS 153 (by decide +kernel) (by decide +kernel)
theorem lk_Model_605 : Cond.methodLink "TurtleWorldModel" 605 ⟨"TurtleWorldModel", "valueOf", "(II)J"⟩ ∈ tw_T := tw_i10 168 (by decide +kernel) (by decide +kernel)
theorem hd_Model_valueOf : y_Model_valueOf.cls ≠ "java/lang/invoke/MethodHandle" ∧ y_Model_valueOf.cls ≠ "java/lang/invoke/VarHandle" ∧ (parseMethodDescriptor y_Model_valueOf.desc).map (fun d => d.parameters.length) = some 2 := by decide +kernel
theorem in_Model_valueOf : Cond.instanceMethod ⟨"TurtleWorldModel", "valueOf", "(II)J"⟩ ∈ tw_T := tw_i10 170 (by decide +kernel) (by decide +kernel)
theorem sel_Model_valueOf : Cond.selects "TurtleWorldModel" ⟨"TurtleWorldModel", "valueOf", "(II)J"⟩ ⟨"TurtleWorldModel", "valueOf", "(II)J"⟩ ∈ tw_T := tw_inS 119 (by decide +kernel) (by decide +kernel)
theorem lk_Model_759 : Cond.methodLink "TurtleWorldModel" 759 ⟨"TurtleWorldModel", "defined", "(IJ)J"⟩ ∈ tw_T := tw_i11 126 (by decide +kernel) (by decide +kernel)
theorem hd_Model_defined : y_Model_defined.cls ≠ "java/lang/invoke/MethodHandle" ∧ y_Model_defined.cls ≠ "java/lang/invoke/VarHandle" ∧ (parseMethodDescriptor y_Model_defined.desc).map (fun d => d.parameters.length) = some 2 := by decide +kernel
theorem in_Model_defined : Cond.instanceMethod ⟨"TurtleWorldModel", "defined", "(IJ)J"⟩ ∈ tw_T := tw_i11 128 (by decide +kernel) (by decide +kernel)
theorem sel_Model_defined : Cond.selects "TurtleWorldModel" ⟨"TurtleWorldModel", "defined", "(IJ)J"⟩ ⟨"TurtleWorldModel", "defined", "(IJ)J"⟩ ∈ tw_T := tw_inS 154 (by decide +kernel) (by decide +kernel)
theorem hd_Model_scan : y_Model_scan.cls ≠ "java/lang/invoke/MethodHandle" ∧ y_Model_scan.cls ≠ "java/lang/invoke/VarHandle" ∧ (parseMethodDescriptor y_Model_scan.desc).map (fun d => d.parameters.length) = some 1 := by decide +kernel
theorem hd_Model_tidy : y_Model_tidy.cls ≠ "java/lang/invoke/MethodHandle" ∧ y_Model_tidy.cls ≠ "java/lang/invoke/VarHandle" ∧ (parseMethodDescriptor y_Model_tidy.desc).map (fun d => d.parameters.length) = some 1 := by decide +kernel
theorem hd_Model_listOf : y_Model_listOf.cls ≠ "java/lang/invoke/MethodHandle" ∧ y_Model_listOf.cls ≠ "java/lang/invoke/VarHandle" ∧ (parseMethodDescriptor y_Model_listOf.desc).map (fun d => d.parameters.length) = some 2 := by decide +kernel
def m_Model_value (n : Nat) (i : Nat → Int32) (j : Nat → Int64) (a : Nat → Nat → Int32) (b : Nat → Nat → Int64) (v1 : Int32) (v2 : Int32) : Option ((Nat → Int32) × (Nat → Int64) × (Nat → Nat → Int32) × (Nat → Nat → Int64) × Int32) := ob1 (upd i 0 0 : Nat → Int32) (fun i_1 => if v1 < ((0 : Int32)) then some (i_1, j, a, b, (-1)) else if v1 < ((i_1 36)) then ck v1 64 (om (m_Model_show n i_1 j a b (b 35 v1.toNatClampNeg) (0 : Int32)) (fun i_6 j_7 a_8 b_9 r_10 => if v2 < ((0 : Int32)) then some (i_6, j_7, a_8, b_9, (-1)) else if v2 < ((i_6 25)) then ck v2 40000 (some (i_6, j_7, a_8, b_9, a_8 24 v2.toNatClampNeg)) else some (i_6, j_7, a_8, b_9, (-1)))) else some (i_1, j, a, b, (-1)))
set_option maxHeartbeats 4000000 in
set_option maxRecDepth 100000 in
theorem x_Model_value (l : Launch) (dC : Nat → ClassId) (dI : Nat → Nat → Nat) (cI cJ cB : ClassId) (adK adV adA : Nat → Nat) (h : Nat) (v : Nat → Nat) (sz : Nat) (n : Nat) {i : Nat → Int32} {j : Nat → Int64} {a : Nat → Nat → Int32} {b : Nat → Nat → Int64} {v1 : Int32} {v2 : Int32} {i2 : Nat → Int32} {j2 : Nat → Int64} {a2 : Nat → Nat → Int32} {b2 : Nat → Nat → Int64} {r2 : Int32} (hm : m_Model_value n i j a b v1 v2 = some (i2, j2, a2, b2, r2)) : Met l y_Model_value w_Model_value ({ frames := 4, cells := 0, slots := 0, locals := 95 } : Room) (va_Pc [.ref h, .int v1, .int v2] (yE dC dI cI cJ cB adK adV adA h v i j a b sz)) (va_Qi (xR r2) (yB dC dI cI cJ cB h v i2 j2 a2 b2 (va_A (MW cI cJ cB h v i j a b) sz)) (va_A (MW cI cJ cB h v i j a b) sz)) 0 0 ((va_A (MW cI cJ cB h v i j a b) sz)) := by
  refine Met.ofW (cc := b_Model_value) (maxL := 3) (ret := (some .int)) (by decide) rfl ?_
  intro p e s m args below meth c s₁ B hml hv
  obtain ⟨rfl, hsz, hP, hK, hE, hD0⟩ := hv
  have hx := B.exec
  have hb := B.bytes
  have hr := B.returns
  have hts := atoms_spec (ws := w_Model_value) B.pre
  have htt : ∀ w ∈ tw_T, w.before _ s = true := fun w h => hts w (List.mem_cons_of_mem _ h)
  have hown : s.vm.findClass R_Model = some m.cls := findClass_of_methodNamed B.named
  have hlocks := B.notSynchronized
  subst hsz
  have hD := hD0.self (sz := s.heap.size)
  generalize hAe : (va_A (MW cI cJ cB h v i j a b) s.heap.size) = A at hD hE ⊢
  have hA : ∀ q : Nat, s.heap.size ≤ q → A q := fun q h => by rw [← hAe]; exact Or.inr h
  have hS : va_S A s.heap s.heap [] := va_S.rf
  have hl := lv_entry ([.ref h, .int v1, .int v2]) (n := 3) (Nat.le_of_ble_eq_true rfl)
  rw [lg_entry_eq]
  generalize (lg_sl ([.ref h, .int v1, .int v2]) ++ List.replicate (3 - (lg_sl ([.ref h, .int v1, .int v2])).length) Slot.unset).toArray = ls at hl ⊢
  have hl : lv_has ls 3 [(0, .ref h), (1, .int v1), (2, .int v2)] := hl
  rw [m_Model_value] at hm
  refine lv_aload_n hx hb d_Model_value_0 rfl (lv_at hl 0 rfl) ?_
  refine lv_iconst (v := 0) hx hb d_Model_value_1 (by decide) ?_
  refine va_put (D := (dC, dI)) (ci := 12) (v := .int 0) (ty := .int) (C := R_Model) (T := F_Model) (N := 127) hx hb htt iw_Model t_Model t_Model_ok n_Model hown hK hP hD hS 0 yo_12 rfl 0 (Nat.le_of_ble_eq_true rfl) (htt _ lk_Model_1) (fun _ h9 => h9) rfl (by decide +kernel) rfl rfl yl_0 d_Model_value_2 (fun H locs hP hD hS => ?_)
  obtain ⟨i_1, ei_1⟩ : ∃ y9 : Nat → Int32, y9 = upd i 0 0 := ⟨_, rfl⟩
  replace hm := ob1_at ei_1 hm
  obtain ⟨hP, hD⟩ := yw_0 ei_1 hP hD
  refine lv_iload_n hx hb d_Model_value_5 rfl (lv_at hl 1 rfl) ?_
  refine lv_if_lt (tgt := 17) hx hb d_Model_value_6 (by decide) (fun c_2 => ?_) (fun c_2 => ?_)
  · replace hm := if_t c_2 hm
    refine lv_iconst (v := -1) hx hb d_Model_value_17 (by decide) ?_
    obtain ⟨e1i, e1j, e1a, e1b, e3⟩ := re4m hm
    obtain ⟨hP, hD⟩ := y_eq e1i e1j e1a e1b hP hD
    exact W.iret hx hb hr (fun t9 ht hW => ⟨⟨_, (), rfl, e3.symm, by rw [ht]; exact hP, hD⟩, hS.F ht⟩) hS.2.2 d_Model_value_18
  · replace hm := if_f c_2 hm
    refine lv_iload_n hx hb d_Model_value_9 rfl (lv_at hl 1 rfl) ?_
    refine lv_aload_n hx hb d_Model_value_10 rfl (lv_at hl 0 rfl) ?_
    refine va_get (D := (dC, dI)) (ci := 12) (v := .int (i_1 36)) (C := R_Model) (T := F_Model) (N := 127) hx hb htt iw_Model hown hK hP 0 yo_12 rfl 36 (Nat.le_of_ble_eq_true rfl) (htt _ lk_Model_350) (fun _ h9 => h9) yg_36 d_Model_value_11 ?_
    refine lv_icmp_lt (tgt := 19) hx hb d_Model_value_14 (by decide) (fun c_3 => ?_) (fun c_3 => ?_)
    · replace hm := if_t c_3 hm
      refine lv_aload_n hx hb d_Model_value_19 rfl (lv_at hl 0 rfl) ?_
      refine lv_aload_n hx hb d_Model_value_20 rfl (lv_at hl 0 rfl) ?_
      refine va_get (D := (dC, dI)) (ci := 12) (v := .ref ((v 35))) (C := R_Model) (T := F_Model) (N := 127) hx hb htt iw_Model hown hK hP 0 yo_12 rfl 35 (Nat.le_of_ble_eq_true rfl) (htt _ lk_Model_198) (fun _ h9 => h9) yg_35 d_Model_value_21 ?_
      refine lv_iload_n hx hb d_Model_value_24 rfl (lv_at hl 1 rfl) ?_
      obtain ⟨h_4, hm⟩ := ck_some hm
      refine va_lald hx hb hK hP 28 1 ya_35 rfl h_4 d_Model_value_25 ?_
      refine lv_iconst (v := 0) hx hb d_Model_value_26 (by decide) ?_
      obtain ⟨i_6, j_7, a_8, b_9, r_10, h_5, hm⟩ := om_some hm
      have hFc := x_free hD hS hA
      refine va_callv (va_runV (As := [.long (b 35 v1.toNatClampNeg), .int 0]) (rest := []) ⟨hx, hb, hml, hown, hts⟩ (x_Model_show l dC dI cI cJ cB adK adV adA h v H.size n h_5) (cwV 2 hts (tw_GV tw_cons cw_Model_show lk_Model_782 in_Model_show sel_Model_show ini_Model) rfl rfl rfl ⟨rfl, hd_Model_show⟩ ⟨Nat.le_of_ble_eq_true rfl, Nat.le_of_ble_eq_true rfl⟩) (ypV hK hP hD hS hE hFc yo_12 rfl) rfl rfl hl.1 rfl (lv_room (Nat.le_of_ble_eq_true rfl)) d_Model_value_27 ⟨Nat.le_of_ble_eq_true rfl, Nat.le_of_ble_eq_true rfl⟩) hS (fun q _ h => hFc q h) hFc (fun u9 t9 H locs ht hvm e9 hB hz1 hk1 hS => ?_)
      obtain ⟨hP, hD⟩ := y_aft hB ht hFc
      clear hFc hk1 hz1 hvm hB ht
      refine lv_iload_n hx hb d_Model_value_30 rfl (lv_at hl 2 rfl) ?_
      refine lv_if_lt (tgt := 42) hx hb d_Model_value_31 (by decide) (fun c_11 => ?_) (fun c_11 => ?_)
      · replace hm := if_t c_11 hm
        refine lv_iconst (v := -1) hx hb d_Model_value_42 (by decide) ?_
        refine lv_goto (tgt := 52) hx hb d_Model_value_43 (by decide) ?_
        obtain ⟨e1i, e1j, e1a, e1b, e3⟩ := re4m hm
        obtain ⟨hP, hD⟩ := y_eq e1i e1j e1a e1b hP hD
        exact W.iret hx hb hr (fun t9 ht hW => ⟨⟨_, (), rfl, e3.symm, by rw [ht]; exact hP, hD⟩, hS.F ht⟩) hS.2.2 d_Model_value_52
      · replace hm := if_f c_11 hm
        refine lv_iload_n hx hb d_Model_value_34 rfl (lv_at hl 2 rfl) ?_
        refine lv_aload_n hx hb d_Model_value_35 rfl (lv_at hl 0 rfl) ?_
        refine va_get (D := (dC, dI)) (ci := 12) (v := .int (i_6 25)) (C := R_Model) (T := F_Model) (N := 127) hx hb htt iw_Model hown hK hP 0 yo_12 rfl 25 (Nat.le_of_ble_eq_true rfl) (htt _ lk_Model_108) (fun _ h9 => h9) yg_25 d_Model_value_36 ?_
        refine lv_icmp_lt (tgt := 46) hx hb d_Model_value_39 (by decide) (fun c_12 => ?_) (fun c_12 => ?_)
        · replace hm := if_t c_12 hm
          refine lv_aload_n hx hb d_Model_value_46 rfl (lv_at hl 0 rfl) ?_
          refine va_get (D := (dC, dI)) (ci := 12) (v := .ref ((v 24))) (C := R_Model) (T := F_Model) (N := 127) hx hb htt iw_Model hown hK hP 0 yo_12 rfl 24 (Nat.le_of_ble_eq_true rfl) (htt _ lk_Model_105) (fun _ h9 => h9) yg_24 d_Model_value_47 ?_
          refine lv_iload_n hx hb d_Model_value_50 rfl (lv_at hl 2 rfl) ?_
          obtain ⟨h_13, hm⟩ := ck_some hm
          refine va_bald hx hb hK hP 20 2 ya_24 rfl h_13 d_Model_value_51 ?_
          obtain ⟨e1i, e1j, e1a, e1b, e3⟩ := re4m hm
          obtain ⟨hP, hD⟩ := y_eq e1i e1j e1a e1b hP hD
          exact W.iret hx hb hr (fun t9 ht hW => ⟨⟨_, (), rfl, e3.symm, by rw [ht]; exact hP, hD⟩, hS.F ht⟩) hS.2.2 d_Model_value_52
        · replace hm := if_f c_12 hm
          refine lv_iconst (v := -1) hx hb d_Model_value_42 (by decide) ?_
          refine lv_goto (tgt := 52) hx hb d_Model_value_43 (by decide) ?_
          obtain ⟨e1i, e1j, e1a, e1b, e3⟩ := re4m hm
          obtain ⟨hP, hD⟩ := y_eq e1i e1j e1a e1b hP hD
          exact W.iret hx hb hr (fun t9 ht hW => ⟨⟨_, (), rfl, e3.symm, by rw [ht]; exact hP, hD⟩, hS.F ht⟩) hS.2.2 d_Model_value_52
    · replace hm := if_f c_3 hm
      refine lv_iconst (v := -1) hx hb d_Model_value_17 (by decide) ?_
      obtain ⟨e1i, e1j, e1a, e1b, e3⟩ := re4m hm
      obtain ⟨hP, hD⟩ := y_eq e1i e1j e1a e1b hP hD
      exact W.iret hx hb hr (fun t9 ht hW => ⟨⟨_, (), rfl, e3.symm, by rw [ht]; exact hP, hD⟩, hS.F ht⟩) hS.2.2 d_Model_value_18

def m_Model_listOf_b51 (n : Nat) (rc_4 : (Nat → Int32) → (Nat → Int64) → (Nat → Nat → Int32) → (Nat → Nat → Int64) → Int32 → Int32 → Int32 → Option ((Nat → Int32) × (Nat → Int64) × (Nat → Nat → Int32) × (Nat → Nat → Int64) × Int64)) (i : Nat → Int32) (j : Nat → Int64) (a : Nat → Nat → Int32) (b : Nat → Nat → Int64) (v1 : Int32) (v2 : Int32) (v3 : Int32) : Option ((Nat → Int32) × (Nat → Int64) × (Nat → Nat → Int32) × (Nat → Nat → Int64) × Int64) := ob1 (v3 + (-1) : Int32) (fun x_1 => rc_4 i j a b v1 v2 x_1)
set_option maxHeartbeats 4000000 in
set_option maxRecDepth 100000 in
theorem lb_Model_listOf_51 (l : Launch) (dC : Nat → ClassId) (dI : Nat → Nat → Nat) (cI cJ cB : ClassId) (adK adV adA : Nat → Nat) (h : Nat) (v : Nat → Nat) (n : Nat) {p : Program} {e : Env} {s : State} {m : MethodId} {args : Array Value} {below : List Frame} {meth : Method} {c : Code} {A : Nat → Prop} (hx : p.tables.exec = Jvm.exec) (hb : c.code = b_Model_listOf) (hml : c.maxLocals = 4) (hown : s.vm.findClass R_Model = some m.cls) (hts : ∀ w ∈ w_Model_listOf, w.before args s = true) (hK : va_K (dC, dI) classes [(cI, .int), (cJ, .long), (cB, .byte)] s) (hE : tw_E adK adV adA A s s.heap) (hA : ∀ q : Nat, s.heap.size ≤ q → A q) (hr : meth.sig.returnType = (some .long)) (hlocks : meth.locks = false) {i2 : Nat → Int32} {j2 : Nat → Int64} {a2 : Nat → Nat → Int32} {b2 : Nat → Nat → Int64} {r2 : Int64} (rc_4 : (Nat → Int32) → (Nat → Int64) → (Nat → Nat → Int32) → (Nat → Nat → Int64) → Int32 → Int32 → Int32 → Option ((Nat → Int32) × (Nat → Int64) × (Nat → Nat → Int32) × (Nat → Nat → Int64) × Int64)) (Hrc_4 : ∀ (i : Nat → Int32) (j : Nat → Int64) (a : Nat → Nat → Int32) (b : Nat → Nat → Int64) (v1 : Int32) (v2 : Int32) (v3 : Int32), rc_4 i j a b v1 v2 v3 = some (i2, j2, a2, b2, r2) → ∀ (H : Heap) (locs : List Loc) (ls : Array Slot), va_P (dC, dI) classes (MW cI cJ cB h v i j a b) H → va_D A (MW cI cJ cB h v i j a b) → va_S A s.heap H locs → lv_has ls 4 [(0, .ref h), (1, .int v1), (2, .int v2), (3, .int v3)] → W p l e ({ frames := 5, cells := 0, slots := 0, locals := 112 } : Room) s m args below meth c H locs 0 0 (MQ below (va_Ql (xR r2) (yB dC dI cI cJ cB h v i2 j2 a2 b2 A) A) args s 0 0 A) (F0 m 4 ls [])) (i : Nat → Int32) (j : Nat → Int64) (a : Nat → Nat → Int32) (b : Nat → Nat → Int64) (v1 : Int32) (v2 : Int32) (v3 : Int32) (hm : m_Model_listOf_b51 n rc_4 i j a b v1 v2 v3 = some (i2, j2, a2, b2, r2)) : ∀ (H : Heap) (locs : List Loc) (ls : Array Slot), va_P (dC, dI) classes (MW cI cJ cB h v i j a b) H → va_D A (MW cI cJ cB h v i j a b) → va_S A s.heap H locs → lv_has ls 4 [(0, .ref h), (1, .int v1), (2, .int v2), (3, .int v3)] → W p l e ({ frames := 5, cells := 0, slots := 0, locals := 112 } : Room) s m args below meth c H locs 0 0 (MQ below (va_Ql (xR r2) (yB dC dI cI cJ cB h v i2 j2 a2 b2 A) A) args s 0 0 A) (F0 m 51 ls []) := by
  have htt : ∀ w ∈ tw_T, w.before _ s = true := fun w h => hts w (List.mem_cons_of_mem _ h)
  intro H locs ls hP hD hS hl
  rw [m_Model_listOf_b51] at hm
  obtain ⟨x_1, ex_1⟩ : ∃ y9 : Int32, y9 = v3 + (-1) := ⟨_, rfl⟩
  replace hm := ob1_at ex_1 hm
  refine lv_iinc (v := x_1) (lv' := [(3, .int x_1), (0, .ref h), (1, .int v1), (2, .int v2)]) hx hb d_Model_listOf_51 hl (k := 3) rfl (by rw [ex_1]; rfl) (by decide) rfl (fun ls hl => ?_)
  refine lv_goto (tgt := 4) hx hb d_Model_listOf_54 (by decide) ?_
  exact Hrc_4 _ _ _ _ _ _ _ hm _ _ _ hP hD hS (lv_sub hl [1, 2, 3, 0] rfl)
def m_Model_listOf_b4 (n : Nat) : Nat → (Nat → Int32) → (Nat → Int64) → (Nat → Nat → Int32) → (Nat → Nat → Int64) → Int32 → Int32 → Int32 → Option ((Nat → Int32) × (Nat → Int64) × (Nat → Nat → Int32) × (Nat → Nat → Int64) × Int64)
  | 0, _, _, _, _, _, _, _ => none
  | f + 1, i, j, a, b, v1, v2, v3 => if v3 < v1 then om (m_Model_within n i j a b v1 v2) (fun i_3 j_4 a_5 b_6 r_7 => some (i_3, j_4, a_5, b_6, r_7)) else ck v3 601 (if ((lg_cmp (b 80 v3.toNatClampNeg) 3)) = ((0 : Int32)) then ck v3 601 (if ((a 79 v3.toNatClampNeg)) = v3 then m_Model_listOf_b51 n (m_Model_listOf_b4 n f) i j a b v1 v2 v3 else ck v3 601 (om (m_Model_within n i j a b (v3 + 1) (a 79 v3.toNatClampNeg)) (fun i_14 j_15 a_16 b_17 r_18 => ck v3 601 (ob1 (svl b_17 83 v3.toNatClampNeg r_18 : Nat → Nat → Int64) (fun b_20 => m_Model_listOf_b51 n (m_Model_listOf_b4 n f) i_14 j_15 a_16 b_20 v1 v2 v3))))) else m_Model_listOf_b51 n (m_Model_listOf_b4 n f) i j a b v1 v2 v3)
set_option maxHeartbeats 4000000 in
set_option maxRecDepth 100000 in
theorem lb_Model_listOf_4 (l : Launch) (dC : Nat → ClassId) (dI : Nat → Nat → Nat) (cI cJ cB : ClassId) (adK adV adA : Nat → Nat) (h : Nat) (v : Nat → Nat) (n : Nat) {p : Program} {e : Env} {s : State} {m : MethodId} {args : Array Value} {below : List Frame} {meth : Method} {c : Code} {A : Nat → Prop} (hx : p.tables.exec = Jvm.exec) (hb : c.code = b_Model_listOf) (hml : c.maxLocals = 4) (hown : s.vm.findClass R_Model = some m.cls) (hts : ∀ w ∈ w_Model_listOf, w.before args s = true) (hK : va_K (dC, dI) classes [(cI, .int), (cJ, .long), (cB, .byte)] s) (hE : tw_E adK adV adA A s s.heap) (hA : ∀ q : Nat, s.heap.size ≤ q → A q) (hr : meth.sig.returnType = (some .long)) (hlocks : meth.locks = false) {i2 : Nat → Int32} {j2 : Nat → Int64} {a2 : Nat → Nat → Int32} {b2 : Nat → Nat → Int64} {r2 : Int64} : ∀ (f : Nat) (i : Nat → Int32) (j : Nat → Int64) (a : Nat → Nat → Int32) (b : Nat → Nat → Int64) (v1 : Int32) (v2 : Int32) (v3 : Int32), m_Model_listOf_b4 n f i j a b v1 v2 v3 = some (i2, j2, a2, b2, r2) → ∀ (H : Heap) (locs : List Loc) (ls : Array Slot), va_P (dC, dI) classes (MW cI cJ cB h v i j a b) H → va_D A (MW cI cJ cB h v i j a b) → va_S A s.heap H locs → lv_has ls 4 [(0, .ref h), (1, .int v1), (2, .int v2), (3, .int v3)] → W p l e ({ frames := 5, cells := 0, slots := 0, locals := 112 } : Room) s m args below meth c H locs 0 0 (MQ below (va_Ql (xR r2) (yB dC dI cI cJ cB h v i2 j2 a2 b2 A) A) args s 0 0 A) (F0 m 4 ls []) := by
  have htt : ∀ w ∈ tw_T, w.before _ s = true := fun w h => hts w (List.mem_cons_of_mem _ h)
  intro f
  induction f with
  | zero =>
    intro i j a b v1 v2 v3 hm
    rw [m_Model_listOf_b4] at hm
    cases hm
  | succ f ih =>
    intro i j a b v1 v2 v3 hm H locs ls hP hD hS hl
    rw [m_Model_listOf_b4] at hm
    refine lv_iload_n hx hb d_Model_listOf_4 rfl (lv_at hl 3 rfl) ?_
    refine lv_iload_n hx hb d_Model_listOf_5 rfl (lv_at hl 1 rfl) ?_
    refine lv_icmp_lt (tgt := 57) hx hb d_Model_listOf_6 (by decide) (fun c_1 => ?_) (fun c_1 => ?_)
    · replace hm := if_t c_1 hm
      refine lv_aload_n hx hb d_Model_listOf_57 rfl (lv_at hl 0 rfl) ?_
      refine lv_iload_n hx hb d_Model_listOf_58 rfl (lv_at hl 1 rfl) ?_
      refine lv_iload_n hx hb d_Model_listOf_59 rfl (lv_at hl 2 rfl) ?_
      obtain ⟨i_3, j_4, a_5, b_6, r_7, h_2, hm⟩ := om_some hm
      have hFc := x_free hD hS hA
      refine va_calll (va_runV (As := [.int v1, .int v2]) (rest := []) ⟨hx, hb, hml, hown, hts⟩ (x_Model_within l dC dI cI cJ cB adK adV adA h v H.size n h_2) (cwV 2 hts (tw_GV tw_cons cw_Model_within lk_Model_461 in_Model_within sel_Model_within ini_Model) rfl rfl rfl ⟨rfl, hd_Model_within⟩ ⟨Nat.le_of_ble_eq_true rfl, Nat.le_of_ble_eq_true rfl⟩) (ypV hK hP hD hS hE hFc yo_12 rfl) rfl rfl hl.1 rfl (lv_room (Nat.le_of_ble_eq_true rfl)) d_Model_listOf_60 ⟨Nat.le_of_ble_eq_true rfl, Nat.le_of_ble_eq_true rfl⟩) hS (fun q _ h => hFc q h) hFc (fun r9 u9 t9 H locs ht hvm e9 hB hz1 hk1 hS => ?_)
      have e9 : r_7 = r9 := e9
      subst e9
      obtain ⟨hP, hD⟩ := y_aft hB ht hFc
      clear hFc hk1 hz1 hvm hB ht
      obtain ⟨e1i, e1j, e1a, e1b, e3⟩ := re4m hm
      obtain ⟨hP, hD⟩ := y_eq e1i e1j e1a e1b hP hD
      exact W.lret hx hb hr (fun t9 ht hW => ⟨⟨_, (), rfl, e3.symm, by rw [ht]; exact hP, hD⟩, hS.F ht⟩) hS.2.2 d_Model_listOf_63
    · replace hm := if_f c_1 hm
      refine lv_aload_n hx hb d_Model_listOf_9 rfl (lv_at hl 0 rfl) ?_
      refine va_get (D := (dC, dI)) (ci := 12) (v := .ref ((v 80))) (C := R_Model) (T := F_Model) (N := 127) hx hb htt iw_Model hown hK hP 0 yo_12 rfl 80 (Nat.le_of_ble_eq_true rfl) (htt _ lk_Model_276) (fun _ h9 => h9) yg_80 d_Model_listOf_10 ?_
      refine lv_iload_n hx hb d_Model_listOf_13 rfl (lv_at hl 3 rfl) ?_
      obtain ⟨h_8, hm⟩ := ck_some hm
      refine va_lald hx hb hK hP 53 1 ya_80 rfl h_8 d_Model_listOf_14 ?_
      refine lv_ldc2 (v := 3) hx hb hown (htt _ lk_Model_7) d_Model_listOf_15 ?_
      refine W.lcmp hx hb d_Model_listOf_18 ?_
      refine lv_if_ne (tgt := 51) hx hb d_Model_listOf_19 (by decide) (fun c_9 => ?_) (fun c_9 => ?_)
      · replace hm := if_f c_9 hm
        exact lb_Model_listOf_51 l dC dI cI cJ cB adK adV adA h v n hx hb hml hown hts hK hE hA hr hlocks (m_Model_listOf_b4 n f) ih _ _ _ _ _ _ _ hm _ _ _ hP hD hS (lv_sub hl [0, 1, 2, 3] rfl)
      · replace hm := if_t c_9 hm
        refine lv_aload_n hx hb d_Model_listOf_22 rfl (lv_at hl 0 rfl) ?_
        refine va_get (D := (dC, dI)) (ci := 12) (v := .ref ((v 79))) (C := R_Model) (T := F_Model) (N := 127) hx hb htt iw_Model hown hK hP 0 yo_12 rfl 79 (Nat.le_of_ble_eq_true rfl) (htt _ lk_Model_273) (fun _ h9 => h9) yg_79 d_Model_listOf_23 ?_
        refine lv_iload_n hx hb d_Model_listOf_26 rfl (lv_at hl 3 rfl) ?_
        obtain ⟨h_10, hm⟩ := ck_some hm
        refine va_iald hx hb hK hP 52 0 ya_79 rfl h_10 d_Model_listOf_27 ?_
        refine lv_iload_n hx hb d_Model_listOf_28 rfl (lv_at hl 3 rfl) ?_
        refine lv_icmp_eq (tgt := 51) hx hb d_Model_listOf_29 (by decide) (fun c_11 => ?_) (fun c_11 => ?_)
        · replace hm := if_t c_11 hm
          exact lb_Model_listOf_51 l dC dI cI cJ cB adK adV adA h v n hx hb hml hown hts hK hE hA hr hlocks (m_Model_listOf_b4 n f) ih _ _ _ _ _ _ _ hm _ _ _ hP hD hS (lv_sub hl [0, 1, 2, 3] rfl)
        · replace hm := if_f c_11 hm
          refine lv_aload_n hx hb d_Model_listOf_32 rfl (lv_at hl 0 rfl) ?_
          refine va_get (D := (dC, dI)) (ci := 12) (v := .ref ((v 83))) (C := R_Model) (T := F_Model) (N := 127) hx hb htt iw_Model hown hK hP 0 yo_12 rfl 83 (Nat.le_of_ble_eq_true rfl) (htt _ lk_Model_282) (fun _ h9 => h9) yg_83 d_Model_listOf_33 ?_
          refine lv_iload_n hx hb d_Model_listOf_36 rfl (lv_at hl 3 rfl) ?_
          refine lv_aload_n hx hb d_Model_listOf_37 rfl (lv_at hl 0 rfl) ?_
          refine lv_iload_n hx hb d_Model_listOf_38 rfl (lv_at hl 3 rfl) ?_
          refine lv_iconst (v := 1) hx hb d_Model_listOf_39 (by decide) ?_
          refine lv_iadd hx hb d_Model_listOf_40 ?_
          refine lv_aload_n hx hb d_Model_listOf_41 rfl (lv_at hl 0 rfl) ?_
          refine va_get (D := (dC, dI)) (ci := 12) (v := .ref ((v 79))) (C := R_Model) (T := F_Model) (N := 127) hx hb htt iw_Model hown hK hP 0 yo_12 rfl 79 (Nat.le_of_ble_eq_true rfl) (htt _ lk_Model_273) (fun _ h9 => h9) yg_79 d_Model_listOf_42 ?_
          refine lv_iload_n hx hb d_Model_listOf_45 rfl (lv_at hl 3 rfl) ?_
          obtain ⟨h_12, hm⟩ := ck_some hm
          refine va_iald hx hb hK hP 52 0 ya_79 rfl h_12 d_Model_listOf_46 ?_
          obtain ⟨i_14, j_15, a_16, b_17, r_18, h_13, hm⟩ := om_some hm
          have hFc := x_free hD hS hA
          refine va_calll (va_runV (As := [.int (v3 + 1), .int (a 79 v3.toNatClampNeg)]) (rest := [.int v3, .ref ((v 83))]) ⟨hx, hb, hml, hown, hts⟩ (x_Model_within l dC dI cI cJ cB adK adV adA h v H.size n h_13) (cwV 2 hts (tw_GV tw_cons cw_Model_within lk_Model_461 in_Model_within sel_Model_within ini_Model) rfl rfl rfl ⟨rfl, hd_Model_within⟩ ⟨Nat.le_of_ble_eq_true rfl, Nat.le_of_ble_eq_true rfl⟩) (ypV hK hP hD hS hE hFc yo_12 rfl) rfl rfl hl.1 rfl (lv_room (Nat.le_of_ble_eq_true rfl)) d_Model_listOf_47 ⟨Nat.le_of_ble_eq_true rfl, Nat.le_of_ble_eq_true rfl⟩) hS (fun q _ h => hFc q h) hFc (fun r9 u9 t9 H locs ht hvm e9 hB hz1 hk1 hS => ?_)
          have e9 : r_18 = r9 := e9
          subst e9
          obtain ⟨hP, hD⟩ := y_aft hB ht hFc
          clear hFc hk1 hz1 hvm hB ht
          obtain ⟨h_19, hm⟩ := ck_some hm
          refine va_last hx hb hK hP hD hS 55 1 ya_83 rfl h_19 d_Model_listOf_50 (fun H locs hP hD hS => ?_)
          obtain ⟨b_20, eb_20⟩ : ∃ y9 : Nat → Nat → Int64, y9 = svl b_17 83 v3.toNatClampNeg r_18 := ⟨_, rfl⟩
          replace hm := ob1_at eb_20 hm
          obtain ⟨hP, hD⟩ := yv_83 eb_20 hP hD
          exact lb_Model_listOf_51 l dC dI cI cJ cB adK adV adA h v n hx hb hml hown hts hK hE hA hr hlocks (m_Model_listOf_b4 n f) ih _ _ _ _ _ _ _ hm _ _ _ hP hD hS (lv_sub hl [0, 1, 2, 3] rfl)
def m_Model_listOf (n : Nat) (i : Nat → Int32) (j : Nat → Int64) (a : Nat → Nat → Int32) (b : Nat → Nat → Int64) (v1 : Int32) (v2 : Int32) : Option ((Nat → Int32) × (Nat → Int64) × (Nat → Nat → Int32) × (Nat → Nat → Int64) × Int64) := ob1 (v2 - 1 : Int32) (fun x_1 => m_Model_listOf_b4 n n i j a b v1 v2 x_1)
set_option maxHeartbeats 4000000 in
set_option maxRecDepth 100000 in
theorem x_Model_listOf (l : Launch) (dC : Nat → ClassId) (dI : Nat → Nat → Nat) (cI cJ cB : ClassId) (adK adV adA : Nat → Nat) (h : Nat) (v : Nat → Nat) (sz : Nat) (n : Nat) {i : Nat → Int32} {j : Nat → Int64} {a : Nat → Nat → Int32} {b : Nat → Nat → Int64} {v1 : Int32} {v2 : Int32} {i2 : Nat → Int32} {j2 : Nat → Int64} {a2 : Nat → Nat → Int32} {b2 : Nat → Nat → Int64} {r2 : Int64} (hm : m_Model_listOf n i j a b v1 v2 = some (i2, j2, a2, b2, r2)) : Met l y_Model_listOf w_Model_listOf ({ frames := 5, cells := 0, slots := 0, locals := 112 } : Room) (va_Pc [.ref h, .int v1, .int v2] (yE dC dI cI cJ cB adK adV adA h v i j a b sz)) (va_Ql (xR r2) (yB dC dI cI cJ cB h v i2 j2 a2 b2 (va_A (MW cI cJ cB h v i j a b) sz)) (va_A (MW cI cJ cB h v i j a b) sz)) 0 0 ((va_A (MW cI cJ cB h v i j a b) sz)) := by
  refine Met.ofW (cc := b_Model_listOf) (maxL := 4) (ret := (some .long)) (by decide) rfl ?_
  intro p e s m args below meth c s₁ B hml hv
  obtain ⟨rfl, hsz, hP, hK, hE, hD0⟩ := hv
  have hx := B.exec
  have hb := B.bytes
  have hr := B.returns
  have hts := atoms_spec (ws := w_Model_listOf) B.pre
  have htt : ∀ w ∈ tw_T, w.before _ s = true := fun w h => hts w (List.mem_cons_of_mem _ h)
  have hown : s.vm.findClass R_Model = some m.cls := findClass_of_methodNamed B.named
  have hlocks := B.notSynchronized
  subst hsz
  have hD := hD0.self (sz := s.heap.size)
  generalize hAe : (va_A (MW cI cJ cB h v i j a b) s.heap.size) = A at hD hE ⊢
  have hA : ∀ q : Nat, s.heap.size ≤ q → A q := fun q h => by rw [← hAe]; exact Or.inr h
  have hS : va_S A s.heap s.heap [] := va_S.rf
  have hl := lv_entry ([.ref h, .int v1, .int v2]) (n := 4) (Nat.le_of_ble_eq_true rfl)
  rw [lg_entry_eq]
  generalize (lg_sl ([.ref h, .int v1, .int v2]) ++ List.replicate (4 - (lg_sl ([.ref h, .int v1, .int v2])).length) Slot.unset).toArray = ls at hl ⊢
  have hl : lv_has ls 4 [(0, .ref h), (1, .int v1), (2, .int v2)] := hl
  rw [m_Model_listOf] at hm
  refine lv_iload_n hx hb d_Model_listOf_0 rfl (lv_at hl 2 rfl) ?_
  refine lv_iconst (v := 1) hx hb d_Model_listOf_1 (by decide) ?_
  refine lv_isub hx hb d_Model_listOf_2 ?_
  refine lv_topi (fun x_1 ex_1 => ?_)
  replace hm := ob1_at ex_1 hm
  refine lv_istore_n (lv' := [(3, .int x_1), (0, .ref h), (1, .int v1), (2, .int v2)]) hx hb d_Model_listOf_3 rfl hl (by decide) rfl (fun ls hl => ?_)
  exact lb_Model_listOf_4 l dC dI cI cJ cB adK adV adA h v n hx hb hml hown hts hK hE hA hr hlocks n _ _ _ _ _ _ _ hm _ _ _ hP hD hS (lv_sub hl [1, 2, 3, 0] rfl)

def m_Model_values_b312 (n : Nat) (rc_294 : (Nat → Int32) → (Nat → Int64) → (Nat → Nat → Int32) → (Nat → Nat → Int64) → Int32 → Int64 → Int32 → Int32 → Option ((Nat → Int32) × (Nat → Int64) × (Nat → Nat → Int32) × (Nat → Nat → Int64) × Int64)) (i : Nat → Int32) (j : Nat → Int64) (a : Nat → Nat → Int32) (b : Nat → Nat → Int64) (v1 : Int32) (v2 : Int64) (v6 : Int32) (v7 : Int32) (s0 : Int32) (s1 : Int32) (s2 : Int32) : Option ((Nat → Int32) × (Nat → Int64) × (Nat → Nat → Int32) × (Nat → Nat → Int64) × Int64) := if ((s1 - s0)) ≤ s2 then om (m_Model_listed n i j a b v6) (fun i_3 j_4 a_5 b_6 r_7 => some (i_3, j_4, a_5, b_6, r_7)) else ob0 (m_Model_member n i j a b v2 v7) (fun r_9 => om (m_Model_put n i j a b r_9) (fun i_11 j_12 a_13 b_14 r_15 => ob1 (v7 + 1 : Int32) (fun x_16 => rc_294 i_11 j_12 a_13 b_14 v1 v2 v6 x_16)))
set_option maxHeartbeats 4000000 in
set_option maxRecDepth 100000 in
theorem lb_Model_values_312 (l : Launch) (dC : Nat → ClassId) (dI : Nat → Nat → Nat) (cI cJ cB : ClassId) (adK adV adA : Nat → Nat) (h : Nat) (v : Nat → Nat) (n : Nat) {p : Program} {e : Env} {s : State} {m : MethodId} {args : Array Value} {below : List Frame} {meth : Method} {c : Code} {A : Nat → Prop} (hx : p.tables.exec = Jvm.exec) (hb : c.code = b_Model_values) (hml : c.maxLocals = 8) (hown : s.vm.findClass R_Model = some m.cls) (hts : ∀ w ∈ w_Model_values, w.before args s = true) (hK : va_K (dC, dI) classes [(cI, .int), (cJ, .long), (cB, .byte)] s) (hE : tw_E adK adV adA A s s.heap) (hA : ∀ q : Nat, s.heap.size ≤ q → A q) (hr : meth.sig.returnType = (some .long)) (hlocks : meth.locks = false) {i2 : Nat → Int32} {j2 : Nat → Int64} {a2 : Nat → Nat → Int32} {b2 : Nat → Nat → Int64} {r2 : Int64} (rc_294 : (Nat → Int32) → (Nat → Int64) → (Nat → Nat → Int32) → (Nat → Nat → Int64) → Int32 → Int64 → Int32 → Int32 → Option ((Nat → Int32) × (Nat → Int64) × (Nat → Nat → Int32) × (Nat → Nat → Int64) × Int64)) (Hrc_294 : ∀ (i : Nat → Int32) (j : Nat → Int64) (a : Nat → Nat → Int32) (b : Nat → Nat → Int64) (v1 : Int32) (v2 : Int64) (v6 : Int32) (v7 : Int32), rc_294 i j a b v1 v2 v6 v7 = some (i2, j2, a2, b2, r2) → ∀ (H : Heap) (locs : List Loc) (ls : Array Slot), va_P (dC, dI) classes (MW cI cJ cB h v i j a b) H → va_D A (MW cI cJ cB h v i j a b) → va_S A s.heap H locs → lv_has ls 8 [(0, .ref h), (1, .int v1), (2, .long v2), (6, .int v6), (7, .int v7)] → W p l e ({ frames := 5, cells := 0, slots := 0, locals := 111 } : Room) s m args below meth c H locs 0 0 (MQ below (va_Ql (xR r2) (yB dC dI cI cJ cB h v i2 j2 a2 b2 A) A) args s 0 0 A) (F0 m 294 ls [])) (i : Nat → Int32) (j : Nat → Int64) (a : Nat → Nat → Int32) (b : Nat → Nat → Int64) (v1 : Int32) (v2 : Int64) (v6 : Int32) (v7 : Int32) (s0 : Int32) (s1 : Int32) (s2 : Int32) (hm : m_Model_values_b312 n rc_294 i j a b v1 v2 v6 v7 s0 s1 s2 = some (i2, j2, a2, b2, r2)) : ∀ (H : Heap) (locs : List Loc) (ls : Array Slot), va_P (dC, dI) classes (MW cI cJ cB h v i j a b) H → va_D A (MW cI cJ cB h v i j a b) → va_S A s.heap H locs → lv_has ls 8 [(0, .ref h), (1, .int v1), (2, .long v2), (6, .int v6), (7, .int v7)] → W p l e ({ frames := 5, cells := 0, slots := 0, locals := 111 } : Room) s m args below meth c H locs 0 0 (MQ below (va_Ql (xR r2) (yB dC dI cI cJ cB h v i2 j2 a2 b2 A) A) args s 0 0 A) (F0 m 312 ls [.int s0, .int s1, .int s2]) := by
  have htt : ∀ w ∈ tw_T, w.before _ s = true := fun w h => hts w (List.mem_cons_of_mem _ h)
  intro H locs ls hP hD hS hl
  rw [m_Model_values_b312] at hm
  refine lv_isub hx hb d_Model_values_312 ?_
  refine lv_icmp_ge (tgt := 333) hx hb d_Model_values_313 (by decide) (fun c_1 => ?_) (fun c_1 => ?_)
  · replace hm := if_t c_1 hm
    refine lv_aload_n hx hb d_Model_values_333 rfl (lv_at hl 0 rfl) ?_
    refine lv_iload hx hb d_Model_values_334 (lv_at hl 3 rfl) ?_
    obtain ⟨i_3, j_4, a_5, b_6, r_7, h_2, hm⟩ := om_some hm
    have hFc := x_free hD hS hA
    refine va_calll (va_runV (As := [.int v6]) (rest := []) ⟨hx, hb, hml, hown, hts⟩ (x_Model_listed l dC dI cI cJ cB adK adV adA h v H.size n h_2) (cwV 1 hts (tw_GV tw_cons cw_Model_listed lk_Model_747 in_Model_listed sel_Model_listed ini_Model) rfl rfl rfl ⟨rfl, hd_Model_listed⟩ ⟨Nat.le_of_ble_eq_true rfl, Nat.le_of_ble_eq_true rfl⟩) (ypV hK hP hD hS hE hFc yo_12 rfl) rfl rfl hl.1 rfl (lv_room (Nat.le_of_ble_eq_true rfl)) d_Model_values_336 ⟨Nat.le_of_ble_eq_true rfl, Nat.le_of_ble_eq_true rfl⟩) hS (fun q _ h => hFc q h) hFc (fun r9 u9 t9 H locs ht hvm e9 hB hz1 hk1 hS => ?_)
    have e9 : r_7 = r9 := e9
    subst e9
    obtain ⟨hP, hD⟩ := y_aft hB ht hFc
    clear hFc hk1 hz1 hvm hB ht
    obtain ⟨e1i, e1j, e1a, e1b, e3⟩ := re4m hm
    obtain ⟨hP, hD⟩ := y_eq e1i e1j e1a e1b hP hD
    exact W.lret hx hb hr (fun t9 ht hW => ⟨⟨_, (), rfl, e3.symm, by rw [ht]; exact hP, hD⟩, hS.F ht⟩) hS.2.2 d_Model_values_339
  · replace hm := if_f c_1 hm
    refine lv_aload_n hx hb d_Model_values_316 rfl (lv_at hl 0 rfl) ?_
    refine lv_aload_n hx hb d_Model_values_317 rfl (lv_at hl 0 rfl) ?_
    refine lv_lload_n hx hb d_Model_values_318 rfl (lv_at hl 2 rfl) ?_
    refine lv_iload hx hb d_Model_values_319 (lv_at hl 4 rfl) ?_
    obtain ⟨r_9, h_8, hm⟩ := ob0_some hm
    have hFc := x_free0 hS hA
    refine va_calll (va_runV (As := [.long v2, .int v7]) (rest := [.ref h]) ⟨hx, hb, hml, hown, hts⟩ (x_Model_member l dC dI cI cJ cB adK adV adA h v H.size n h_8) (cwV 2 hts (tw_GV tw_cons cw_Model_member lk_Model_101 in_Model_member sel_Model_member ini_Model) rfl rfl rfl ⟨rfl, hd_Model_member⟩ ⟨Nat.le_of_ble_eq_true rfl, Nat.le_of_ble_eq_true rfl⟩) (ypVr hK hP hS hE hFc yo_12 rfl) rfl rfl hl.1 rfl (lv_room (Nat.le_of_ble_eq_true rfl)) d_Model_values_321 ⟨Nat.le_of_ble_eq_true rfl, Nat.le_of_ble_eq_true rfl⟩) hS (fun q _ h => hFc q h) hFc (fun r9 u9 t9 H locs ht hvm e9 hB hz1 hk1 hS => ?_)
    have e9 : r_9 = r9 := e9
    subst e9
    replace hP := x_keep hP hk1
    clear hFc hk1 hz1 hvm hB ht
    obtain ⟨i_11, j_12, a_13, b_14, r_15, h_10, hm⟩ := om_some hm
    have hFc := x_free hD hS hA
    refine va_callv (va_runV (As := [.long r_9]) (rest := []) ⟨hx, hb, hml, hown, hts⟩ (x_Model_put l dC dI cI cJ cB adK adV adA h v H.size n h_10) (cwV 1 hts (tw_GV tw_cons cw_Model_put lk_Model_465 in_Model_put sel_Model_put ini_Model) rfl rfl rfl ⟨rfl, hd_Model_put⟩ ⟨Nat.le_of_ble_eq_true rfl, Nat.le_of_ble_eq_true rfl⟩) (ypV hK hP hD hS hE hFc yo_12 rfl) rfl rfl hl.1 rfl (lv_room (Nat.le_of_ble_eq_true rfl)) d_Model_values_324 ⟨Nat.le_of_ble_eq_true rfl, Nat.le_of_ble_eq_true rfl⟩) hS (fun q _ h => hFc q h) hFc (fun u9 t9 H locs ht hvm e9 hB hz1 hk1 hS => ?_)
    obtain ⟨hP, hD⟩ := y_aft hB ht hFc
    clear hFc hk1 hz1 hvm hB ht
    obtain ⟨x_16, ex_16⟩ : ∃ y9 : Int32, y9 = v7 + 1 := ⟨_, rfl⟩
    replace hm := ob1_at ex_16 hm
    refine lv_iinc (v := x_16) (lv' := [(7, .int x_16), (0, .ref h), (1, .int v1), (2, .long v2), (6, .int v6)]) hx hb d_Model_values_327 hl (k := 4) rfl (by rw [ex_16]; rfl) (by decide) rfl (fun ls hl => ?_)
    refine lv_goto (tgt := 294) hx hb d_Model_values_330 (by decide) ?_
    exact Hrc_294 _ _ _ _ _ _ _ _ hm _ _ _ hP hD hS (lv_sub hl [1, 2, 3, 4, 0] rfl)
def m_Model_values_b294 (n : Nat) : Nat → (Nat → Int32) → (Nat → Int64) → (Nat → Nat → Int32) → (Nat → Nat → Int64) → Int32 → Int64 → Int32 → Int32 → Option ((Nat → Int32) × (Nat → Int64) × (Nat → Nat → Int32) × (Nat → Nat → Int64) × Int64)
  | 0, _, _, _, _, _, _, _, _ => none
  | f + 1, i, j, a, b, v1, v2, v6, v7 => ob0 (m_Model_size n i j a b v2) (fun r_2 => if v1 = ((40 : Int32)) then m_Model_values_b312 n (m_Model_values_b294 n f) i j a b v1 v2 v6 v7 (1 : Int32) r_2 v7 else m_Model_values_b312 n (m_Model_values_b294 n f) i j a b v1 v2 v6 v7 (0 : Int32) r_2 v7)
set_option maxHeartbeats 4000000 in
set_option maxRecDepth 100000 in
theorem lb_Model_values_294 (l : Launch) (dC : Nat → ClassId) (dI : Nat → Nat → Nat) (cI cJ cB : ClassId) (adK adV adA : Nat → Nat) (h : Nat) (v : Nat → Nat) (n : Nat) {p : Program} {e : Env} {s : State} {m : MethodId} {args : Array Value} {below : List Frame} {meth : Method} {c : Code} {A : Nat → Prop} (hx : p.tables.exec = Jvm.exec) (hb : c.code = b_Model_values) (hml : c.maxLocals = 8) (hown : s.vm.findClass R_Model = some m.cls) (hts : ∀ w ∈ w_Model_values, w.before args s = true) (hK : va_K (dC, dI) classes [(cI, .int), (cJ, .long), (cB, .byte)] s) (hE : tw_E adK adV adA A s s.heap) (hA : ∀ q : Nat, s.heap.size ≤ q → A q) (hr : meth.sig.returnType = (some .long)) (hlocks : meth.locks = false) {i2 : Nat → Int32} {j2 : Nat → Int64} {a2 : Nat → Nat → Int32} {b2 : Nat → Nat → Int64} {r2 : Int64} : ∀ (f : Nat) (i : Nat → Int32) (j : Nat → Int64) (a : Nat → Nat → Int32) (b : Nat → Nat → Int64) (v1 : Int32) (v2 : Int64) (v6 : Int32) (v7 : Int32), m_Model_values_b294 n f i j a b v1 v2 v6 v7 = some (i2, j2, a2, b2, r2) → ∀ (H : Heap) (locs : List Loc) (ls : Array Slot), va_P (dC, dI) classes (MW cI cJ cB h v i j a b) H → va_D A (MW cI cJ cB h v i j a b) → va_S A s.heap H locs → lv_has ls 8 [(0, .ref h), (1, .int v1), (2, .long v2), (6, .int v6), (7, .int v7)] → W p l e ({ frames := 5, cells := 0, slots := 0, locals := 111 } : Room) s m args below meth c H locs 0 0 (MQ below (va_Ql (xR r2) (yB dC dI cI cJ cB h v i2 j2 a2 b2 A) A) args s 0 0 A) (F0 m 294 ls []) := by
  have htt : ∀ w ∈ tw_T, w.before _ s = true := fun w h => hts w (List.mem_cons_of_mem _ h)
  intro f
  induction f with
  | zero =>
    intro i j a b v1 v2 v6 v7 hm
    rw [m_Model_values_b294] at hm
    cases hm
  | succ f ih =>
    intro i j a b v1 v2 v6 v7 hm H locs ls hP hD hS hl
    rw [m_Model_values_b294] at hm
    refine lv_iload hx hb d_Model_values_294 (lv_at hl 4 rfl) ?_
    refine lv_aload_n hx hb d_Model_values_296 rfl (lv_at hl 0 rfl) ?_
    refine lv_lload_n hx hb d_Model_values_297 rfl (lv_at hl 2 rfl) ?_
    obtain ⟨r_2, h_1, hm⟩ := ob0_some hm
    have hFc := x_free0 hS hA
    refine va_calli (va_runV (As := [.long v2]) (rest := [.int v7]) ⟨hx, hb, hml, hown, hts⟩ (x_Model_size l dC dI cI cJ cB adK adV adA h v H.size n h_1) (cwV 1 hts (tw_GV tw_cons cw_Model_size lk_Model_98 in_Model_size sel_Model_size ini_Model) rfl rfl rfl ⟨rfl, hd_Model_size⟩ ⟨Nat.le_of_ble_eq_true rfl, Nat.le_of_ble_eq_true rfl⟩) (ypVr hK hP hS hE hFc yo_12 rfl) rfl rfl hl.1 rfl (lv_room (Nat.le_of_ble_eq_true rfl)) d_Model_values_298 ⟨Nat.le_of_ble_eq_true rfl, Nat.le_of_ble_eq_true rfl⟩) hS (fun q _ h => hFc q h) hFc (fun r9 u9 t9 H locs ht hvm e9 hB hz1 hk1 hS => ?_)
    have e9 : r_2 = r9 := e9
    subst e9
    replace hP := x_keep hP hk1
    clear hFc hk1 hz1 hvm hB ht
    refine lv_iload_n hx hb d_Model_values_301 rfl (lv_at hl 1 rfl) ?_
    refine lv_bipush (v := 40) hx hb d_Model_values_302 (by decide) ?_
    refine lv_icmp_ne (tgt := 311) hx hb d_Model_values_304 (by decide) (fun c_3 => ?_) (fun c_3 => ?_)
    · replace hm := if_f c_3 hm
      refine lv_iconst (v := 0) hx hb d_Model_values_311 (by decide) ?_
      exact lb_Model_values_312 l dC dI cI cJ cB adK adV adA h v n hx hb hml hown hts hK hE hA hr hlocks (m_Model_values_b294 n f) ih _ _ _ _ _ _ _ _ _ _ _ hm _ _ _ hP hD hS (lv_sub hl [0, 1, 2, 3, 4] rfl)
    · replace hm := if_t c_3 hm
      refine lv_iconst (v := 1) hx hb d_Model_values_307 (by decide) ?_
      refine lv_goto (tgt := 312) hx hb d_Model_values_308 (by decide) ?_
      exact lb_Model_values_312 l dC dI cI cJ cB adK adV adA h v n hx hb hml hown hts hK hE hA hr hlocks (m_Model_values_b294 n f) ih _ _ _ _ _ _ _ _ _ _ _ hm _ _ _ hP hD hS (lv_sub hl [0, 1, 2, 3, 4] rfl)
def m_Model_values_b292 (n : Nat) (i : Nat → Int32) (j : Nat → Int64) (a : Nat → Nat → Int32) (b : Nat → Nat → Int64) (v1 : Int32) (v2 : Int64) (v6 : Int32) (s0 : Int32) : Option ((Nat → Int32) × (Nat → Int64) × (Nat → Nat → Int32) × (Nat → Nat → Int64) × Int64) := m_Model_values_b294 n n i j a b v1 v2 v6 s0
set_option maxHeartbeats 4000000 in
set_option maxRecDepth 100000 in
theorem lb_Model_values_292 (l : Launch) (dC : Nat → ClassId) (dI : Nat → Nat → Nat) (cI cJ cB : ClassId) (adK adV adA : Nat → Nat) (h : Nat) (v : Nat → Nat) (n : Nat) {p : Program} {e : Env} {s : State} {m : MethodId} {args : Array Value} {below : List Frame} {meth : Method} {c : Code} {A : Nat → Prop} (hx : p.tables.exec = Jvm.exec) (hb : c.code = b_Model_values) (hml : c.maxLocals = 8) (hown : s.vm.findClass R_Model = some m.cls) (hts : ∀ w ∈ w_Model_values, w.before args s = true) (hK : va_K (dC, dI) classes [(cI, .int), (cJ, .long), (cB, .byte)] s) (hE : tw_E adK adV adA A s s.heap) (hA : ∀ q : Nat, s.heap.size ≤ q → A q) (hr : meth.sig.returnType = (some .long)) (hlocks : meth.locks = false) {i2 : Nat → Int32} {j2 : Nat → Int64} {a2 : Nat → Nat → Int32} {b2 : Nat → Nat → Int64} {r2 : Int64} (i : Nat → Int32) (j : Nat → Int64) (a : Nat → Nat → Int32) (b : Nat → Nat → Int64) (v1 : Int32) (v2 : Int64) (v6 : Int32) (s0 : Int32) (hm : m_Model_values_b292 n i j a b v1 v2 v6 s0 = some (i2, j2, a2, b2, r2)) : ∀ (H : Heap) (locs : List Loc) (ls : Array Slot), va_P (dC, dI) classes (MW cI cJ cB h v i j a b) H → va_D A (MW cI cJ cB h v i j a b) → va_S A s.heap H locs → lv_has ls 8 [(0, .ref h), (1, .int v1), (2, .long v2), (6, .int v6)] → W p l e ({ frames := 5, cells := 0, slots := 0, locals := 111 } : Room) s m args below meth c H locs 0 0 (MQ below (va_Ql (xR r2) (yB dC dI cI cJ cB h v i2 j2 a2 b2 A) A) args s 0 0 A) (F0 m 292 ls [.int s0]) := by
  have htt : ∀ w ∈ tw_T, w.before _ s = true := fun w h => hts w (List.mem_cons_of_mem _ h)
  intro H locs ls hP hD hS hl
  rw [m_Model_values_b292] at hm
  refine lv_istore (lv' := [(7, .int s0), (0, .ref h), (1, .int v1), (2, .long v2), (6, .int v6)]) hx hb d_Model_values_292 hl (by decide) rfl (fun ls hl => ?_)
  exact lb_Model_values_294 l dC dI cI cJ cB adK adV adA h v n hx hb hml hown hts hK hE hA hr hlocks n _ _ _ _ _ _ _ _ hm _ _ _ hP hD hS (lv_sub hl [1, 2, 3, 4, 0] rfl)
def m_Model_values_b226 (n : Nat) (i : Nat → Int32) (j : Nat → Int64) (a : Nat → Nat → Int32) (b : Nat → Nat → Int64)  : Option ((Nat → Int32) × (Nat → Int64) × (Nat → Nat → Int32) × (Nat → Nat → Int64) × Int64) := om (m_Model_fails n i j a b (3 : Int32)) (fun i_2 j_3 a_4 b_5 r_6 => some (i_2, j_3, a_4, b_5, r_6))
set_option maxHeartbeats 4000000 in
set_option maxRecDepth 100000 in
theorem lb_Model_values_226 (l : Launch) (dC : Nat → ClassId) (dI : Nat → Nat → Nat) (cI cJ cB : ClassId) (adK adV adA : Nat → Nat) (h : Nat) (v : Nat → Nat) (n : Nat) {p : Program} {e : Env} {s : State} {m : MethodId} {args : Array Value} {below : List Frame} {meth : Method} {c : Code} {A : Nat → Prop} (hx : p.tables.exec = Jvm.exec) (hb : c.code = b_Model_values) (hml : c.maxLocals = 8) (hown : s.vm.findClass R_Model = some m.cls) (hts : ∀ w ∈ w_Model_values, w.before args s = true) (hK : va_K (dC, dI) classes [(cI, .int), (cJ, .long), (cB, .byte)] s) (hE : tw_E adK adV adA A s s.heap) (hA : ∀ q : Nat, s.heap.size ≤ q → A q) (hr : meth.sig.returnType = (some .long)) (hlocks : meth.locks = false) {i2 : Nat → Int32} {j2 : Nat → Int64} {a2 : Nat → Nat → Int32} {b2 : Nat → Nat → Int64} {r2 : Int64} (i : Nat → Int32) (j : Nat → Int64) (a : Nat → Nat → Int32) (b : Nat → Nat → Int64)  (hm : m_Model_values_b226 n i j a b = some (i2, j2, a2, b2, r2)) : ∀ (H : Heap) (locs : List Loc) (ls : Array Slot), va_P (dC, dI) classes (MW cI cJ cB h v i j a b) H → va_D A (MW cI cJ cB h v i j a b) → va_S A s.heap H locs → lv_has ls 8 [(0, .ref h)] → W p l e ({ frames := 5, cells := 0, slots := 0, locals := 111 } : Room) s m args below meth c H locs 0 0 (MQ below (va_Ql (xR r2) (yB dC dI cI cJ cB h v i2 j2 a2 b2 A) A) args s 0 0 A) (F0 m 226 ls []) := by
  have htt : ∀ w ∈ tw_T, w.before _ s = true := fun w h => hts w (List.mem_cons_of_mem _ h)
  intro H locs ls hP hD hS hl
  rw [m_Model_values_b226] at hm
  refine lv_aload_n hx hb d_Model_values_226 rfl (lv_at hl 0 rfl) ?_
  refine lv_iconst (v := 3) hx hb d_Model_values_227 (by decide) ?_
  obtain ⟨i_2, j_3, a_4, b_5, r_6, h_1, hm⟩ := om_some hm
  have hFc := x_free hD hS hA
  refine va_calll (va_runV (As := [.int 3]) (rest := []) ⟨hx, hb, hml, hown, hts⟩ (x_Model_fails l dC dI cI cJ cB adK adV adA h v H.size n h_1) (cwV 1 hts (tw_GV tw_cons cw_Model_fails lk_Model_596 in_Model_fails sel_Model_fails ini_Model) rfl rfl rfl ⟨rfl, hd_Model_fails⟩ ⟨Nat.le_of_ble_eq_true rfl, Nat.le_of_ble_eq_true rfl⟩) (ypV hK hP hD hS hE hFc yo_12 rfl) rfl rfl hl.1 rfl (lv_room (Nat.le_of_ble_eq_true rfl)) d_Model_values_228 ⟨Nat.le_of_ble_eq_true rfl, Nat.le_of_ble_eq_true rfl⟩) hS (fun q _ h => hFc q h) hFc (fun r9 u9 t9 H locs ht hvm e9 hB hz1 hk1 hS => ?_)
  have e9 : r_6 = r9 := e9
  subst e9
  obtain ⟨hP, hD⟩ := y_aft hB ht hFc
  clear hFc hk1 hz1 hvm hB ht
  refine lv_goto (tgt := 246) hx hb d_Model_values_231 (by decide) ?_
  obtain ⟨e1i, e1j, e1a, e1b, e3⟩ := re4m hm
  obtain ⟨hP, hD⟩ := y_eq e1i e1j e1a e1b hP hD
  exact W.lret hx hb hr (fun t9 ht hW => ⟨⟨_, (), rfl, e3.symm, by rw [ht]; exact hP, hD⟩, hS.F ht⟩) hS.2.2 d_Model_values_246
def m_Model_values_b421 (n : Nat) : Nat → (Nat → Int32) → (Nat → Int64) → (Nat → Nat → Int32) → (Nat → Nat → Int64) → Int64 → Int32 → Int32 → Option ((Nat → Int32) × (Nat → Int64) × (Nat → Nat → Int32) × (Nat → Nat → Int64) × Int64)
  | 0, _, _, _, _, _, _, _ => none
  | f + 1, i, j, a, b, v2, v6, v7 => if v7 < ((0 : Int32)) then om (m_Model_listed n i j a b v6) (fun i_3 j_4 a_5 b_6 r_7 => some (i_3, j_4, a_5, b_6, r_7)) else ob0 (m_Model_member n i j a b v2 v7) (fun r_9 => om (m_Model_put n i j a b r_9) (fun i_11 j_12 a_13 b_14 r_15 => ob1 (v7 + (-1) : Int32) (fun x_16 => m_Model_values_b421 n f i_11 j_12 a_13 b_14 v2 v6 x_16)))
set_option maxHeartbeats 4000000 in
set_option maxRecDepth 100000 in
theorem lb_Model_values_421 (l : Launch) (dC : Nat → ClassId) (dI : Nat → Nat → Nat) (cI cJ cB : ClassId) (adK adV adA : Nat → Nat) (h : Nat) (v : Nat → Nat) (n : Nat) {p : Program} {e : Env} {s : State} {m : MethodId} {args : Array Value} {below : List Frame} {meth : Method} {c : Code} {A : Nat → Prop} (hx : p.tables.exec = Jvm.exec) (hb : c.code = b_Model_values) (hml : c.maxLocals = 8) (hown : s.vm.findClass R_Model = some m.cls) (hts : ∀ w ∈ w_Model_values, w.before args s = true) (hK : va_K (dC, dI) classes [(cI, .int), (cJ, .long), (cB, .byte)] s) (hE : tw_E adK adV adA A s s.heap) (hA : ∀ q : Nat, s.heap.size ≤ q → A q) (hr : meth.sig.returnType = (some .long)) (hlocks : meth.locks = false) {i2 : Nat → Int32} {j2 : Nat → Int64} {a2 : Nat → Nat → Int32} {b2 : Nat → Nat → Int64} {r2 : Int64} : ∀ (f : Nat) (i : Nat → Int32) (j : Nat → Int64) (a : Nat → Nat → Int32) (b : Nat → Nat → Int64) (v2 : Int64) (v6 : Int32) (v7 : Int32), m_Model_values_b421 n f i j a b v2 v6 v7 = some (i2, j2, a2, b2, r2) → ∀ (H : Heap) (locs : List Loc) (ls : Array Slot), va_P (dC, dI) classes (MW cI cJ cB h v i j a b) H → va_D A (MW cI cJ cB h v i j a b) → va_S A s.heap H locs → lv_has ls 8 [(0, .ref h), (2, .long v2), (6, .int v6), (7, .int v7)] → W p l e ({ frames := 5, cells := 0, slots := 0, locals := 111 } : Room) s m args below meth c H locs 0 0 (MQ below (va_Ql (xR r2) (yB dC dI cI cJ cB h v i2 j2 a2 b2 A) A) args s 0 0 A) (F0 m 421 ls []) := by
  have htt : ∀ w ∈ tw_T, w.before _ s = true := fun w h => hts w (List.mem_cons_of_mem _ h)
  intro f
  induction f with
  | zero =>
    intro i j a b v2 v6 v7 hm
    rw [m_Model_values_b421] at hm
    cases hm
  | succ f ih =>
    intro i j a b v2 v6 v7 hm H locs ls hP hD hS hl
    rw [m_Model_values_b421] at hm
    refine lv_iload hx hb d_Model_values_421 (lv_at hl 3 rfl) ?_
    refine lv_if_lt (tgt := 443) hx hb d_Model_values_423 (by decide) (fun c_1 => ?_) (fun c_1 => ?_)
    · replace hm := if_t c_1 hm
      refine lv_aload_n hx hb d_Model_values_443 rfl (lv_at hl 0 rfl) ?_
      refine lv_iload hx hb d_Model_values_444 (lv_at hl 2 rfl) ?_
      obtain ⟨i_3, j_4, a_5, b_6, r_7, h_2, hm⟩ := om_some hm
      have hFc := x_free hD hS hA
      refine va_calll (va_runV (As := [.int v6]) (rest := []) ⟨hx, hb, hml, hown, hts⟩ (x_Model_listed l dC dI cI cJ cB adK adV adA h v H.size n h_2) (cwV 1 hts (tw_GV tw_cons cw_Model_listed lk_Model_747 in_Model_listed sel_Model_listed ini_Model) rfl rfl rfl ⟨rfl, hd_Model_listed⟩ ⟨Nat.le_of_ble_eq_true rfl, Nat.le_of_ble_eq_true rfl⟩) (ypV hK hP hD hS hE hFc yo_12 rfl) rfl rfl hl.1 rfl (lv_room (Nat.le_of_ble_eq_true rfl)) d_Model_values_446 ⟨Nat.le_of_ble_eq_true rfl, Nat.le_of_ble_eq_true rfl⟩) hS (fun q _ h => hFc q h) hFc (fun r9 u9 t9 H locs ht hvm e9 hB hz1 hk1 hS => ?_)
      have e9 : r_7 = r9 := e9
      subst e9
      obtain ⟨hP, hD⟩ := y_aft hB ht hFc
      clear hFc hk1 hz1 hvm hB ht
      obtain ⟨e1i, e1j, e1a, e1b, e3⟩ := re4m hm
      obtain ⟨hP, hD⟩ := y_eq e1i e1j e1a e1b hP hD
      exact W.lret hx hb hr (fun t9 ht hW => ⟨⟨_, (), rfl, e3.symm, by rw [ht]; exact hP, hD⟩, hS.F ht⟩) hS.2.2 d_Model_values_449
    · replace hm := if_f c_1 hm
      refine lv_aload_n hx hb d_Model_values_426 rfl (lv_at hl 0 rfl) ?_
      refine lv_aload_n hx hb d_Model_values_427 rfl (lv_at hl 0 rfl) ?_
      refine lv_lload_n hx hb d_Model_values_428 rfl (lv_at hl 1 rfl) ?_
      refine lv_iload hx hb d_Model_values_429 (lv_at hl 3 rfl) ?_
      obtain ⟨r_9, h_8, hm⟩ := ob0_some hm
      have hFc := x_free0 hS hA
      refine va_calll (va_runV (As := [.long v2, .int v7]) (rest := [.ref h]) ⟨hx, hb, hml, hown, hts⟩ (x_Model_member l dC dI cI cJ cB adK adV adA h v H.size n h_8) (cwV 2 hts (tw_GV tw_cons cw_Model_member lk_Model_101 in_Model_member sel_Model_member ini_Model) rfl rfl rfl ⟨rfl, hd_Model_member⟩ ⟨Nat.le_of_ble_eq_true rfl, Nat.le_of_ble_eq_true rfl⟩) (ypVr hK hP hS hE hFc yo_12 rfl) rfl rfl hl.1 rfl (lv_room (Nat.le_of_ble_eq_true rfl)) d_Model_values_431 ⟨Nat.le_of_ble_eq_true rfl, Nat.le_of_ble_eq_true rfl⟩) hS (fun q _ h => hFc q h) hFc (fun r9 u9 t9 H locs ht hvm e9 hB hz1 hk1 hS => ?_)
      have e9 : r_9 = r9 := e9
      subst e9
      replace hP := x_keep hP hk1
      clear hFc hk1 hz1 hvm hB ht
      obtain ⟨i_11, j_12, a_13, b_14, r_15, h_10, hm⟩ := om_some hm
      have hFc := x_free hD hS hA
      refine va_callv (va_runV (As := [.long r_9]) (rest := []) ⟨hx, hb, hml, hown, hts⟩ (x_Model_put l dC dI cI cJ cB adK adV adA h v H.size n h_10) (cwV 1 hts (tw_GV tw_cons cw_Model_put lk_Model_465 in_Model_put sel_Model_put ini_Model) rfl rfl rfl ⟨rfl, hd_Model_put⟩ ⟨Nat.le_of_ble_eq_true rfl, Nat.le_of_ble_eq_true rfl⟩) (ypV hK hP hD hS hE hFc yo_12 rfl) rfl rfl hl.1 rfl (lv_room (Nat.le_of_ble_eq_true rfl)) d_Model_values_434 ⟨Nat.le_of_ble_eq_true rfl, Nat.le_of_ble_eq_true rfl⟩) hS (fun q _ h => hFc q h) hFc (fun u9 t9 H locs ht hvm e9 hB hz1 hk1 hS => ?_)
      obtain ⟨hP, hD⟩ := y_aft hB ht hFc
      clear hFc hk1 hz1 hvm hB ht
      obtain ⟨x_16, ex_16⟩ : ∃ y9 : Int32, y9 = v7 + (-1) := ⟨_, rfl⟩
      replace hm := ob1_at ex_16 hm
      refine lv_iinc (v := x_16) (lv' := [(7, .int x_16), (0, .ref h), (2, .long v2), (6, .int v6)]) hx hb d_Model_values_437 hl (k := 3) rfl (by rw [ex_16]; rfl) (by decide) rfl (fun ls hl => ?_)
      refine lv_goto (tgt := 421) hx hb d_Model_values_440 (by decide) ?_
      exact ih _ _ _ _ _ _ _ hm _ _ _ hP hD hS (lv_sub hl [1, 2, 3, 0] rfl)
def m_Model_values (n : Nat) (i : Nat → Int32) (j : Nat → Int64) (a : Nat → Nat → Int32) (b : Nat → Nat → Int64) (v1 : Int32) (v2 : Int64) (v4 : Int64) : Option ((Nat → Int32) × (Nat → Int64) × (Nat → Nat → Int32) × (Nat → Nat → Int64) × Int64) := ob1 (i 20 : Int32) (fun x_1 => if v1 = 32 then ob0 (m_Model_isList n v2) (fun r_4 => ob0 (m_Model_truth n i j a b r_4) (fun r_6 => some (i, j, a, b, r_6))) else if v1 = 33 then ob0 (m_Model_isWord n v2) (fun r_9 => ob0 (m_Model_truth n i j a b r_9) (fun r_11 => some (i, j, a, b, r_11))) else if v1 = 34 then ob0 (m_Model_isNumber n v2) (fun r_14 => ob0 (m_Model_truth n i j a b r_14) (fun r_16 => some (i, j, a, b, r_16))) else if v1 = 35 then ob0 (m_Model_isList n v2) (fun r_19 => if r_19 = ((0 : Int32)) then ob0 (m_Model_number n (1 : Int32)) (fun r_22 => some (i, j, a, b, r_22)) else ob0 (m_Model_size n i j a b v2) (fun r_24 => ob0 (m_Model_number n r_24) (fun r_26 => some (i, j, a, b, r_26)))) else if v1 = 36 then ob0 (m_Model_size n i j a b v2) (fun r_29 => if r_29 = ((0 : Int32)) then ob0 (m_Model_truth n i j a b (1 : Int32)) (fun r_34 => some (i, j, a, b, r_34)) else ob0 (m_Model_truth n i j a b (0 : Int32)) (fun r_32 => some (i, j, a, b, r_32))) else if v1 = 37 then ob0 (m_Model_size n i j a b v2) (fun r_37 => if r_37 = ((0 : Int32)) then om (m_Model_fails n i j a b (3 : Int32)) (fun i_42 j_43 a_44 b_45 r_46 => some (i_42, j_43, a_44, b_45, r_46)) else ob0 (m_Model_member n i j a b v2 (0 : Int32)) (fun r_40 => some (i, j, a, b, r_40))) else if v1 = 38 then ob0 (m_Model_size n i j a b v2) (fun r_49 => if r_49 = ((0 : Int32)) then om (m_Model_fails n i j a b (3 : Int32)) (fun i_56 j_57 a_58 b_59 r_60 => some (i_56, j_57, a_58, b_59, r_60)) else ob0 (m_Model_size n i j a b v2) (fun r_52 => ob0 (m_Model_member n i j a b v2 (r_52 - 1)) (fun r_54 => some (i, j, a, b, r_54)))) else if v1 = 39 then ob0 (m_Model_size n i j a b v2) (fun r_63 => if r_63 = ((0 : Int32)) then om (m_Model_fails n i j a b (3 : Int32)) (fun i_67 j_68 a_69 b_70 r_71 => some (i_67, j_68, a_69, b_70, r_71)) else if v1 = ((39 : Int32)) then m_Model_values_b292 n i j a b v1 v2 x_1 (1 : Int32) else m_Model_values_b292 n i j a b v1 v2 x_1 (0 : Int32)) else if v1 = 40 then ob0 (m_Model_size n i j a b v2) (fun r_74 => if r_74 = ((0 : Int32)) then om (m_Model_fails n i j a b (3 : Int32)) (fun i_78 j_79 a_80 b_81 r_82 => some (i_78, j_79, a_80, b_81, r_82)) else if v1 = ((39 : Int32)) then m_Model_values_b292 n i j a b v1 v2 x_1 (1 : Int32) else m_Model_values_b292 n i j a b v1 v2 x_1 (0 : Int32)) else if v1 = 41 then ob0 (m_Model_what n v2) (fun r_85 => if r_85 < ((1 : Int32)) then m_Model_values_b226 n i j a b else ob0 (m_Model_what n v2) (fun r_88 => ob0 (m_Model_size n i j a b v4) (fun r_90 => if r_88 ≤ r_90 then ob0 (m_Model_what n v2) (fun r_93 => ob0 (m_Model_member n i j a b v4 (r_93 - 1)) (fun r_95 => some (i, j, a, b, r_95))) else m_Model_values_b226 n i j a b))) else if v1 = 42 then om (m_Model_put n i j a b v2) (fun i_98 j_99 a_100 b_101 r_102 => om (m_Model_putAll n i_98 j_99 a_100 b_101 v4) (fun i_104 j_105 a_106 b_107 r_108 => om (m_Model_listed n i_104 j_105 a_106 b_107 x_1) (fun i_110 j_111 a_112 b_113 r_114 => some (i_110, j_111, a_112, b_113, r_114)))) else if v1 = 43 then om (m_Model_putAll n i j a b v4) (fun i_117 j_118 a_119 b_120 r_121 => om (m_Model_put n i_117 j_118 a_119 b_120 v2) (fun i_123 j_124 a_125 b_126 r_127 => om (m_Model_listed n i_123 j_124 a_125 b_126 x_1) (fun i_129 j_130 a_131 b_132 r_133 => some (i_129, j_130, a_131, b_132, r_133)))) else if v1 = 44 then om (m_Model_putAll n i j a b v2) (fun i_136 j_137 a_138 b_139 r_140 => om (m_Model_putAll n i_136 j_137 a_138 b_139 v4) (fun i_142 j_143 a_144 b_145 r_146 => om (m_Model_listed n i_142 j_143 a_144 b_145 x_1) (fun i_148 j_149 a_150 b_151 r_152 => some (i_148, j_149, a_150, b_151, r_152)))) else if v1 = 45 then om (m_Model_put n i j a b v2) (fun i_155 j_156 a_157 b_158 r_159 => om (m_Model_put n i_155 j_156 a_157 b_158 v4) (fun i_161 j_162 a_163 b_164 r_165 => om (m_Model_listed n i_161 j_162 a_163 b_164 x_1) (fun i_167 j_168 a_169 b_170 r_171 => some (i_167, j_168, a_169, b_170, r_171)))) else if v1 = 46 then om (m_Model_holds n i j a b v4 v2) (fun i_174 j_175 a_176 b_177 r_178 => ob0 (m_Model_truth n i_174 j_175 a_176 b_177 r_178) (fun r_180 => some (i_174, j_175, a_176, b_177, r_180))) else if v1 = 47 then ob0 (m_Model_size n i j a b v2) (fun r_183 => ob1 (r_183 - 1 : Int32) (fun x_184 => m_Model_values_b421 n n i j a b v2 x_1 x_184)) else if v1 = 48 then om (m_Model_joined n i j a b v2 v4) (fun i_187 j_188 a_189 b_190 r_191 => some (i_187, j_188, a_189, b_190, r_191)) else ob0 (m_Model_size n i j a b v2) (fun r_193 => ob1 (r_193 - 1 : Int32) (fun x_194 => m_Model_values_b421 n n i j a b v2 x_1 x_194)))
set_option maxHeartbeats 4000000 in
set_option maxRecDepth 100000 in
theorem x_Model_values (l : Launch) (dC : Nat → ClassId) (dI : Nat → Nat → Nat) (cI cJ cB : ClassId) (adK adV adA : Nat → Nat) (h : Nat) (v : Nat → Nat) (sz : Nat) (n : Nat) {i : Nat → Int32} {j : Nat → Int64} {a : Nat → Nat → Int32} {b : Nat → Nat → Int64} {v1 : Int32} {v2 : Int64} {v4 : Int64} {i2 : Nat → Int32} {j2 : Nat → Int64} {a2 : Nat → Nat → Int32} {b2 : Nat → Nat → Int64} {r2 : Int64} (hm : m_Model_values n i j a b v1 v2 v4 = some (i2, j2, a2, b2, r2)) : Met l y_Model_values w_Model_values ({ frames := 5, cells := 0, slots := 0, locals := 111 } : Room) (va_Pc [.ref h, .int v1, .long v2, .long v4] (yE dC dI cI cJ cB adK adV adA h v i j a b sz)) (va_Ql (xR r2) (yB dC dI cI cJ cB h v i2 j2 a2 b2 (va_A (MW cI cJ cB h v i j a b) sz)) (va_A (MW cI cJ cB h v i j a b) sz)) 0 0 ((va_A (MW cI cJ cB h v i j a b) sz)) := by
  refine Met.ofW (cc := b_Model_values) (maxL := 8) (ret := (some .long)) (by decide) rfl ?_
  intro p e s m args below meth c s₁ B hml hv
  obtain ⟨rfl, hsz, hP, hK, hE, hD0⟩ := hv
  have hx := B.exec
  have hb := B.bytes
  have hr := B.returns
  have hts := atoms_spec (ws := w_Model_values) B.pre
  have htt : ∀ w ∈ tw_T, w.before _ s = true := fun w h => hts w (List.mem_cons_of_mem _ h)
  have hown : s.vm.findClass R_Model = some m.cls := findClass_of_methodNamed B.named
  have hlocks := B.notSynchronized
  subst hsz
  have hD := hD0.self (sz := s.heap.size)
  generalize hAe : (va_A (MW cI cJ cB h v i j a b) s.heap.size) = A at hD hE ⊢
  have hA : ∀ q : Nat, s.heap.size ≤ q → A q := fun q h => by rw [← hAe]; exact Or.inr h
  have hS : va_S A s.heap s.heap [] := va_S.rf
  have hl := lv_entry ([.ref h, .int v1, .long v2, .long v4]) (n := 8) (Nat.le_of_ble_eq_true rfl)
  rw [lg_entry_eq]
  generalize (lg_sl ([.ref h, .int v1, .long v2, .long v4]) ++ List.replicate (8 - (lg_sl ([.ref h, .int v1, .long v2, .long v4])).length) Slot.unset).toArray = ls at hl ⊢
  have hl : lv_has ls 8 [(0, .ref h), (1, .int v1), (2, .long v2), (4, .long v4)] := hl
  rw [m_Model_values] at hm
  refine lv_aload_n hx hb d_Model_values_0 rfl (lv_at hl 0 rfl) ?_
  refine va_get (D := (dC, dI)) (ci := 12) (v := .int (i 20)) (C := R_Model) (T := F_Model) (N := 127) hx hb htt iw_Model hown hK hP 0 yo_12 rfl 20 (Nat.le_of_ble_eq_true rfl) (htt _ lk_Model_32) (fun _ h9 => h9) yg_20 d_Model_values_1 ?_
  refine lv_topi (fun x_1 ex_1 => ?_)
  replace hm := ob1_at ex_1 hm
  refine lv_istore (lv' := [(6, .int x_1), (0, .ref h), (1, .int v1), (2, .long v2), (4, .long v4)]) hx hb d_Model_values_4 hl (by decide) rfl (fun ls hl => ?_)
  refine lv_iload_n hx hb d_Model_values_6 rfl (lv_at hl 2 rfl) ?_
  rcases Classical.em (v1 = 32) with c_2 | c_2
  · replace hm := if_t c_2 hm
    refine lv_tableIn (x := v1) (tgt := 88) hx hb d_Model_values_7 (by rw [c_2]; decide) (by rw [c_2]; decide) (by rw [c_2]; rfl) (by decide) ?_
    refine lv_aload_n hx hb d_Model_values_88 rfl (lv_at hl 1 rfl) ?_
    refine lv_lload_n hx hb d_Model_values_89 rfl (lv_at hl 3 rfl) ?_
    obtain ⟨r_4, h_3, hm⟩ := ob0_some hm
    have hFc := x_free0 hS hA
    refine va_calli (va_runS (As := [.long v2]) (rest := [.ref h]) ⟨hx, hb, hml, hown, hts⟩ (x_Model_isList l s.heap.size n h_3) (va_cwS 1 hts (tw_GS tw_cons cw_Model_isList lk_Model_95 st_Model_isList ini_Model) rfl rfl rfl hd_Model_isList ⟨Nat.le_of_ble_eq_true rfl, Nat.le_of_ble_eq_true rfl⟩) xpS0 rfl rfl hl.1 rfl (lv_room (Nat.le_of_ble_eq_true rfl)) d_Model_values_90 ⟨Nat.le_of_ble_eq_true rfl, Nat.le_of_ble_eq_true rfl⟩) hS (fun q _ h => hFc q h) hFc (fun r9 u9 t9 H locs ht hvm e9 hB hz1 hk1 hS => ?_)
    have e9 : r_4 = r9 := e9
    subst e9
    replace hP := x_keep hP hk1
    clear hFc hk1 hz1 hvm hB ht
    obtain ⟨r_6, h_5, hm⟩ := ob0_some hm
    have hFc := x_free0 hS hA
    refine va_calll (va_runV (As := [.int r_4]) (rest := []) ⟨hx, hb, hml, hown, hts⟩ (x_Model_truth l dC dI cI cJ cB adK adV adA h v H.size n h_5) (cwV 1 hts (tw_GV tw_cons cw_Model_truth lk_Model_721 in_Model_truth sel_Model_truth ini_Model) rfl rfl rfl ⟨rfl, hd_Model_truth⟩ ⟨Nat.le_of_ble_eq_true rfl, Nat.le_of_ble_eq_true rfl⟩) (ypVr hK hP hS hE hFc yo_12 rfl) rfl rfl hl.1 rfl (lv_room (Nat.le_of_ble_eq_true rfl)) d_Model_values_93 ⟨Nat.le_of_ble_eq_true rfl, Nat.le_of_ble_eq_true rfl⟩) hS (fun q _ h => hFc q h) hFc (fun r9 u9 t9 H locs ht hvm e9 hB hz1 hk1 hS => ?_)
    have e9 : r_6 = r9 := e9
    subst e9
    replace hP := x_keep hP hk1
    clear hFc hk1 hz1 hvm hB ht
    obtain ⟨e1i, e1j, e1a, e1b, e3⟩ := re4m hm
    obtain ⟨hP, hD⟩ := y_eq e1i e1j e1a e1b hP hD
    exact W.lret hx hb hr (fun t9 ht hW => ⟨⟨_, (), rfl, e3.symm, by rw [ht]; exact hP, hD⟩, hS.F ht⟩) hS.2.2 d_Model_values_96
  replace hm := if_f c_2 hm
  rcases Classical.em (v1 = 33) with c_7 | c_7
  · replace hm := if_t c_7 hm
    refine lv_tableIn (x := v1) (tgt := 97) hx hb d_Model_values_7 (by rw [c_7]; decide) (by rw [c_7]; decide) (by rw [c_7]; rfl) (by decide) ?_
    refine lv_aload_n hx hb d_Model_values_97 rfl (lv_at hl 1 rfl) ?_
    refine lv_lload_n hx hb d_Model_values_98 rfl (lv_at hl 3 rfl) ?_
    obtain ⟨r_9, h_8, hm⟩ := ob0_some hm
    have hFc := x_free0 hS hA
    refine va_calli (va_runS (As := [.long v2]) (rest := [.ref h]) ⟨hx, hb, hml, hown, hts⟩ (x_Model_isWord l s.heap.size n h_8) (va_cwS 1 hts (tw_GS tw_cons cw_Model_isWord lk_Model_61 st_Model_isWord ini_Model) rfl rfl rfl hd_Model_isWord ⟨Nat.le_of_ble_eq_true rfl, Nat.le_of_ble_eq_true rfl⟩) xpS0 rfl rfl hl.1 rfl (lv_room (Nat.le_of_ble_eq_true rfl)) d_Model_values_99 ⟨Nat.le_of_ble_eq_true rfl, Nat.le_of_ble_eq_true rfl⟩) hS (fun q _ h => hFc q h) hFc (fun r9 u9 t9 H locs ht hvm e9 hB hz1 hk1 hS => ?_)
    have e9 : r_9 = r9 := e9
    subst e9
    replace hP := x_keep hP hk1
    clear hFc hk1 hz1 hvm hB ht
    obtain ⟨r_11, h_10, hm⟩ := ob0_some hm
    have hFc := x_free0 hS hA
    refine va_calll (va_runV (As := [.int r_9]) (rest := []) ⟨hx, hb, hml, hown, hts⟩ (x_Model_truth l dC dI cI cJ cB adK adV adA h v H.size n h_10) (cwV 1 hts (tw_GV tw_cons cw_Model_truth lk_Model_721 in_Model_truth sel_Model_truth ini_Model) rfl rfl rfl ⟨rfl, hd_Model_truth⟩ ⟨Nat.le_of_ble_eq_true rfl, Nat.le_of_ble_eq_true rfl⟩) (ypVr hK hP hS hE hFc yo_12 rfl) rfl rfl hl.1 rfl (lv_room (Nat.le_of_ble_eq_true rfl)) d_Model_values_102 ⟨Nat.le_of_ble_eq_true rfl, Nat.le_of_ble_eq_true rfl⟩) hS (fun q _ h => hFc q h) hFc (fun r9 u9 t9 H locs ht hvm e9 hB hz1 hk1 hS => ?_)
    have e9 : r_11 = r9 := e9
    subst e9
    replace hP := x_keep hP hk1
    clear hFc hk1 hz1 hvm hB ht
    obtain ⟨e1i, e1j, e1a, e1b, e3⟩ := re4m hm
    obtain ⟨hP, hD⟩ := y_eq e1i e1j e1a e1b hP hD
    exact W.lret hx hb hr (fun t9 ht hW => ⟨⟨_, (), rfl, e3.symm, by rw [ht]; exact hP, hD⟩, hS.F ht⟩) hS.2.2 d_Model_values_105
  replace hm := if_f c_7 hm
  rcases Classical.em (v1 = 34) with c_12 | c_12
  · replace hm := if_t c_12 hm
    refine lv_tableIn (x := v1) (tgt := 106) hx hb d_Model_values_7 (by rw [c_12]; decide) (by rw [c_12]; decide) (by rw [c_12]; rfl) (by decide) ?_
    refine lv_aload_n hx hb d_Model_values_106 rfl (lv_at hl 1 rfl) ?_
    refine lv_lload_n hx hb d_Model_values_107 rfl (lv_at hl 3 rfl) ?_
    obtain ⟨r_14, h_13, hm⟩ := ob0_some hm
    have hFc := x_free0 hS hA
    refine va_calli (va_runS (As := [.long v2]) (rest := [.ref h]) ⟨hx, hb, hml, hown, hts⟩ (x_Model_isNumber l s.heap.size n h_13) (va_cwS 1 hts (tw_GS tw_cons cw_Model_isNumber lk_Model_57 st_Model_isNumber ini_Model) rfl rfl rfl hd_Model_isNumber ⟨Nat.le_of_ble_eq_true rfl, Nat.le_of_ble_eq_true rfl⟩) xpS0 rfl rfl hl.1 rfl (lv_room (Nat.le_of_ble_eq_true rfl)) d_Model_values_108 ⟨Nat.le_of_ble_eq_true rfl, Nat.le_of_ble_eq_true rfl⟩) hS (fun q _ h => hFc q h) hFc (fun r9 u9 t9 H locs ht hvm e9 hB hz1 hk1 hS => ?_)
    have e9 : r_14 = r9 := e9
    subst e9
    replace hP := x_keep hP hk1
    clear hFc hk1 hz1 hvm hB ht
    obtain ⟨r_16, h_15, hm⟩ := ob0_some hm
    have hFc := x_free0 hS hA
    refine va_calll (va_runV (As := [.int r_14]) (rest := []) ⟨hx, hb, hml, hown, hts⟩ (x_Model_truth l dC dI cI cJ cB adK adV adA h v H.size n h_15) (cwV 1 hts (tw_GV tw_cons cw_Model_truth lk_Model_721 in_Model_truth sel_Model_truth ini_Model) rfl rfl rfl ⟨rfl, hd_Model_truth⟩ ⟨Nat.le_of_ble_eq_true rfl, Nat.le_of_ble_eq_true rfl⟩) (ypVr hK hP hS hE hFc yo_12 rfl) rfl rfl hl.1 rfl (lv_room (Nat.le_of_ble_eq_true rfl)) d_Model_values_111 ⟨Nat.le_of_ble_eq_true rfl, Nat.le_of_ble_eq_true rfl⟩) hS (fun q _ h => hFc q h) hFc (fun r9 u9 t9 H locs ht hvm e9 hB hz1 hk1 hS => ?_)
    have e9 : r_16 = r9 := e9
    subst e9
    replace hP := x_keep hP hk1
    clear hFc hk1 hz1 hvm hB ht
    obtain ⟨e1i, e1j, e1a, e1b, e3⟩ := re4m hm
    obtain ⟨hP, hD⟩ := y_eq e1i e1j e1a e1b hP hD
    exact W.lret hx hb hr (fun t9 ht hW => ⟨⟨_, (), rfl, e3.symm, by rw [ht]; exact hP, hD⟩, hS.F ht⟩) hS.2.2 d_Model_values_114
  replace hm := if_f c_12 hm
  rcases Classical.em (v1 = 35) with c_17 | c_17
  · replace hm := if_t c_17 hm
    refine lv_tableIn (x := v1) (tgt := 115) hx hb d_Model_values_7 (by rw [c_17]; decide) (by rw [c_17]; decide) (by rw [c_17]; rfl) (by decide) ?_
    refine lv_lload_n hx hb d_Model_values_115 rfl (lv_at hl 3 rfl) ?_
    obtain ⟨r_19, h_18, hm⟩ := ob0_some hm
    have hFc := x_free0 hS hA
    refine va_calli (va_runS (As := [.long v2]) (rest := []) ⟨hx, hb, hml, hown, hts⟩ (x_Model_isList l s.heap.size n h_18) (va_cwS 1 hts (tw_GS tw_cons cw_Model_isList lk_Model_95 st_Model_isList ini_Model) rfl rfl rfl hd_Model_isList ⟨Nat.le_of_ble_eq_true rfl, Nat.le_of_ble_eq_true rfl⟩) xpS0 rfl rfl hl.1 rfl (lv_room (Nat.le_of_ble_eq_true rfl)) d_Model_values_116 ⟨Nat.le_of_ble_eq_true rfl, Nat.le_of_ble_eq_true rfl⟩) hS (fun q _ h => hFc q h) hFc (fun r9 u9 t9 H locs ht hvm e9 hB hz1 hk1 hS => ?_)
    have e9 : r_19 = r9 := e9
    subst e9
    replace hP := x_keep hP hk1
    clear hFc hk1 hz1 hvm hB ht
    refine lv_if_eq (tgt := 130) hx hb d_Model_values_119 (by decide) (fun c_20 => ?_) (fun c_20 => ?_)
    · replace hm := if_t c_20 hm
      refine lv_iconst (v := 1) hx hb d_Model_values_130 (by decide) ?_
      obtain ⟨r_22, h_21, hm⟩ := ob0_some hm
      have hFc := x_free0 hS hA
      refine va_calll (va_runS (As := [.int 1]) (rest := []) ⟨hx, hb, hml, hown, hts⟩ (x_Model_number l H.size n h_21) (va_cwS 1 hts (tw_GS tw_cons cw_Model_number lk_Model_451 st_Model_number ini_Model) rfl rfl rfl hd_Model_number ⟨Nat.le_of_ble_eq_true rfl, Nat.le_of_ble_eq_true rfl⟩) xpS0 rfl rfl hl.1 rfl (lv_room (Nat.le_of_ble_eq_true rfl)) d_Model_values_131 ⟨Nat.le_of_ble_eq_true rfl, Nat.le_of_ble_eq_true rfl⟩) hS (fun q _ h => hFc q h) hFc (fun r9 u9 t9 H locs ht hvm e9 hB hz1 hk1 hS => ?_)
      have e9 : r_22 = r9 := e9
      subst e9
      replace hP := x_keep hP hk1
      clear hFc hk1 hz1 hvm hB ht
      obtain ⟨e1i, e1j, e1a, e1b, e3⟩ := re4m hm
      obtain ⟨hP, hD⟩ := y_eq e1i e1j e1a e1b hP hD
      exact W.lret hx hb hr (fun t9 ht hW => ⟨⟨_, (), rfl, e3.symm, by rw [ht]; exact hP, hD⟩, hS.F ht⟩) hS.2.2 d_Model_values_134
    · replace hm := if_f c_20 hm
      refine lv_aload_n hx hb d_Model_values_122 rfl (lv_at hl 1 rfl) ?_
      refine lv_lload_n hx hb d_Model_values_123 rfl (lv_at hl 3 rfl) ?_
      obtain ⟨r_24, h_23, hm⟩ := ob0_some hm
      have hFc := x_free0 hS hA
      refine va_calli (va_runV (As := [.long v2]) (rest := []) ⟨hx, hb, hml, hown, hts⟩ (x_Model_size l dC dI cI cJ cB adK adV adA h v H.size n h_23) (cwV 1 hts (tw_GV tw_cons cw_Model_size lk_Model_98 in_Model_size sel_Model_size ini_Model) rfl rfl rfl ⟨rfl, hd_Model_size⟩ ⟨Nat.le_of_ble_eq_true rfl, Nat.le_of_ble_eq_true rfl⟩) (ypVr hK hP hS hE hFc yo_12 rfl) rfl rfl hl.1 rfl (lv_room (Nat.le_of_ble_eq_true rfl)) d_Model_values_124 ⟨Nat.le_of_ble_eq_true rfl, Nat.le_of_ble_eq_true rfl⟩) hS (fun q _ h => hFc q h) hFc (fun r9 u9 t9 H locs ht hvm e9 hB hz1 hk1 hS => ?_)
      have e9 : r_24 = r9 := e9
      subst e9
      replace hP := x_keep hP hk1
      clear hFc hk1 hz1 hvm hB ht
      refine lv_goto (tgt := 131) hx hb d_Model_values_127 (by decide) ?_
      obtain ⟨r_26, h_25, hm⟩ := ob0_some hm
      have hFc := x_free0 hS hA
      refine va_calll (va_runS (As := [.int r_24]) (rest := []) ⟨hx, hb, hml, hown, hts⟩ (x_Model_number l H.size n h_25) (va_cwS 1 hts (tw_GS tw_cons cw_Model_number lk_Model_451 st_Model_number ini_Model) rfl rfl rfl hd_Model_number ⟨Nat.le_of_ble_eq_true rfl, Nat.le_of_ble_eq_true rfl⟩) xpS0 rfl rfl hl.1 rfl (lv_room (Nat.le_of_ble_eq_true rfl)) d_Model_values_131 ⟨Nat.le_of_ble_eq_true rfl, Nat.le_of_ble_eq_true rfl⟩) hS (fun q _ h => hFc q h) hFc (fun r9 u9 t9 H locs ht hvm e9 hB hz1 hk1 hS => ?_)
      have e9 : r_26 = r9 := e9
      subst e9
      replace hP := x_keep hP hk1
      clear hFc hk1 hz1 hvm hB ht
      obtain ⟨e1i, e1j, e1a, e1b, e3⟩ := re4m hm
      obtain ⟨hP, hD⟩ := y_eq e1i e1j e1a e1b hP hD
      exact W.lret hx hb hr (fun t9 ht hW => ⟨⟨_, (), rfl, e3.symm, by rw [ht]; exact hP, hD⟩, hS.F ht⟩) hS.2.2 d_Model_values_134
  replace hm := if_f c_17 hm
  rcases Classical.em (v1 = 36) with c_27 | c_27
  · replace hm := if_t c_27 hm
    refine lv_tableIn (x := v1) (tgt := 135) hx hb d_Model_values_7 (by rw [c_27]; decide) (by rw [c_27]; decide) (by rw [c_27]; rfl) (by decide) ?_
    refine lv_aload_n hx hb d_Model_values_135 rfl (lv_at hl 1 rfl) ?_
    refine lv_aload_n hx hb d_Model_values_136 rfl (lv_at hl 1 rfl) ?_
    refine lv_lload_n hx hb d_Model_values_137 rfl (lv_at hl 3 rfl) ?_
    obtain ⟨r_29, h_28, hm⟩ := ob0_some hm
    have hFc := x_free0 hS hA
    refine va_calli (va_runV (As := [.long v2]) (rest := [.ref h]) ⟨hx, hb, hml, hown, hts⟩ (x_Model_size l dC dI cI cJ cB adK adV adA h v s.heap.size n h_28) (cwV 1 hts (tw_GV tw_cons cw_Model_size lk_Model_98 in_Model_size sel_Model_size ini_Model) rfl rfl rfl ⟨rfl, hd_Model_size⟩ ⟨Nat.le_of_ble_eq_true rfl, Nat.le_of_ble_eq_true rfl⟩) (ypVr hK hP hS hE hFc yo_12 rfl) rfl rfl hl.1 rfl (lv_room (Nat.le_of_ble_eq_true rfl)) d_Model_values_138 ⟨Nat.le_of_ble_eq_true rfl, Nat.le_of_ble_eq_true rfl⟩) hS (fun q _ h => hFc q h) hFc (fun r9 u9 t9 H locs ht hvm e9 hB hz1 hk1 hS => ?_)
    have e9 : r_29 = r9 := e9
    subst e9
    replace hP := x_keep hP hk1
    clear hFc hk1 hz1 hvm hB ht
    refine lv_if_ne (tgt := 148) hx hb d_Model_values_141 (by decide) (fun c_30 => ?_) (fun c_30 => ?_)
    · replace hm := if_f c_30 hm
      refine lv_iconst (v := 0) hx hb d_Model_values_148 (by decide) ?_
      obtain ⟨r_32, h_31, hm⟩ := ob0_some hm
      have hFc := x_free0 hS hA
      refine va_calll (va_runV (As := [.int 0]) (rest := []) ⟨hx, hb, hml, hown, hts⟩ (x_Model_truth l dC dI cI cJ cB adK adV adA h v H.size n h_31) (cwV 1 hts (tw_GV tw_cons cw_Model_truth lk_Model_721 in_Model_truth sel_Model_truth ini_Model) rfl rfl rfl ⟨rfl, hd_Model_truth⟩ ⟨Nat.le_of_ble_eq_true rfl, Nat.le_of_ble_eq_true rfl⟩) (ypVr hK hP hS hE hFc yo_12 rfl) rfl rfl hl.1 rfl (lv_room (Nat.le_of_ble_eq_true rfl)) d_Model_values_149 ⟨Nat.le_of_ble_eq_true rfl, Nat.le_of_ble_eq_true rfl⟩) hS (fun q _ h => hFc q h) hFc (fun r9 u9 t9 H locs ht hvm e9 hB hz1 hk1 hS => ?_)
      have e9 : r_32 = r9 := e9
      subst e9
      replace hP := x_keep hP hk1
      clear hFc hk1 hz1 hvm hB ht
      obtain ⟨e1i, e1j, e1a, e1b, e3⟩ := re4m hm
      obtain ⟨hP, hD⟩ := y_eq e1i e1j e1a e1b hP hD
      exact W.lret hx hb hr (fun t9 ht hW => ⟨⟨_, (), rfl, e3.symm, by rw [ht]; exact hP, hD⟩, hS.F ht⟩) hS.2.2 d_Model_values_152
    · replace hm := if_t c_30 hm
      refine lv_iconst (v := 1) hx hb d_Model_values_144 (by decide) ?_
      refine lv_goto (tgt := 149) hx hb d_Model_values_145 (by decide) ?_
      obtain ⟨r_34, h_33, hm⟩ := ob0_some hm
      have hFc := x_free0 hS hA
      refine va_calll (va_runV (As := [.int 1]) (rest := []) ⟨hx, hb, hml, hown, hts⟩ (x_Model_truth l dC dI cI cJ cB adK adV adA h v H.size n h_33) (cwV 1 hts (tw_GV tw_cons cw_Model_truth lk_Model_721 in_Model_truth sel_Model_truth ini_Model) rfl rfl rfl ⟨rfl, hd_Model_truth⟩ ⟨Nat.le_of_ble_eq_true rfl, Nat.le_of_ble_eq_true rfl⟩) (ypVr hK hP hS hE hFc yo_12 rfl) rfl rfl hl.1 rfl (lv_room (Nat.le_of_ble_eq_true rfl)) d_Model_values_149 ⟨Nat.le_of_ble_eq_true rfl, Nat.le_of_ble_eq_true rfl⟩) hS (fun q _ h => hFc q h) hFc (fun r9 u9 t9 H locs ht hvm e9 hB hz1 hk1 hS => ?_)
      have e9 : r_34 = r9 := e9
      subst e9
      replace hP := x_keep hP hk1
      clear hFc hk1 hz1 hvm hB ht
      obtain ⟨e1i, e1j, e1a, e1b, e3⟩ := re4m hm
      obtain ⟨hP, hD⟩ := y_eq e1i e1j e1a e1b hP hD
      exact W.lret hx hb hr (fun t9 ht hW => ⟨⟨_, (), rfl, e3.symm, by rw [ht]; exact hP, hD⟩, hS.F ht⟩) hS.2.2 d_Model_values_152
  replace hm := if_f c_27 hm
  rcases Classical.em (v1 = 37) with c_35 | c_35
  · replace hm := if_t c_35 hm
    refine lv_tableIn (x := v1) (tgt := 153) hx hb d_Model_values_7 (by rw [c_35]; decide) (by rw [c_35]; decide) (by rw [c_35]; rfl) (by decide) ?_
    refine lv_aload_n hx hb d_Model_values_153 rfl (lv_at hl 1 rfl) ?_
    refine lv_lload_n hx hb d_Model_values_154 rfl (lv_at hl 3 rfl) ?_
    obtain ⟨r_37, h_36, hm⟩ := ob0_some hm
    have hFc := x_free0 hS hA
    refine va_calli (va_runV (As := [.long v2]) (rest := []) ⟨hx, hb, hml, hown, hts⟩ (x_Model_size l dC dI cI cJ cB adK adV adA h v s.heap.size n h_36) (cwV 1 hts (tw_GV tw_cons cw_Model_size lk_Model_98 in_Model_size sel_Model_size ini_Model) rfl rfl rfl ⟨rfl, hd_Model_size⟩ ⟨Nat.le_of_ble_eq_true rfl, Nat.le_of_ble_eq_true rfl⟩) (ypVr hK hP hS hE hFc yo_12 rfl) rfl rfl hl.1 rfl (lv_room (Nat.le_of_ble_eq_true rfl)) d_Model_values_155 ⟨Nat.le_of_ble_eq_true rfl, Nat.le_of_ble_eq_true rfl⟩) hS (fun q _ h => hFc q h) hFc (fun r9 u9 t9 H locs ht hvm e9 hB hz1 hk1 hS => ?_)
    have e9 : r_37 = r9 := e9
    subst e9
    replace hP := x_keep hP hk1
    clear hFc hk1 hz1 hvm hB ht
    refine lv_if_ne (tgt := 169) hx hb d_Model_values_158 (by decide) (fun c_38 => ?_) (fun c_38 => ?_)
    · replace hm := if_f c_38 hm
      refine lv_aload_n hx hb d_Model_values_169 rfl (lv_at hl 1 rfl) ?_
      refine lv_lload_n hx hb d_Model_values_170 rfl (lv_at hl 3 rfl) ?_
      refine lv_iconst (v := 0) hx hb d_Model_values_171 (by decide) ?_
      obtain ⟨r_40, h_39, hm⟩ := ob0_some hm
      have hFc := x_free0 hS hA
      refine va_calll (va_runV (As := [.long v2, .int 0]) (rest := []) ⟨hx, hb, hml, hown, hts⟩ (x_Model_member l dC dI cI cJ cB adK adV adA h v H.size n h_39) (cwV 2 hts (tw_GV tw_cons cw_Model_member lk_Model_101 in_Model_member sel_Model_member ini_Model) rfl rfl rfl ⟨rfl, hd_Model_member⟩ ⟨Nat.le_of_ble_eq_true rfl, Nat.le_of_ble_eq_true rfl⟩) (ypVr hK hP hS hE hFc yo_12 rfl) rfl rfl hl.1 rfl (lv_room (Nat.le_of_ble_eq_true rfl)) d_Model_values_172 ⟨Nat.le_of_ble_eq_true rfl, Nat.le_of_ble_eq_true rfl⟩) hS (fun q _ h => hFc q h) hFc (fun r9 u9 t9 H locs ht hvm e9 hB hz1 hk1 hS => ?_)
      have e9 : r_40 = r9 := e9
      subst e9
      replace hP := x_keep hP hk1
      clear hFc hk1 hz1 hvm hB ht
      obtain ⟨e1i, e1j, e1a, e1b, e3⟩ := re4m hm
      obtain ⟨hP, hD⟩ := y_eq e1i e1j e1a e1b hP hD
      exact W.lret hx hb hr (fun t9 ht hW => ⟨⟨_, (), rfl, e3.symm, by rw [ht]; exact hP, hD⟩, hS.F ht⟩) hS.2.2 d_Model_values_175
    · replace hm := if_t c_38 hm
      refine lv_aload_n hx hb d_Model_values_161 rfl (lv_at hl 1 rfl) ?_
      refine lv_iconst (v := 3) hx hb d_Model_values_162 (by decide) ?_
      obtain ⟨i_42, j_43, a_44, b_45, r_46, h_41, hm⟩ := om_some hm
      have hFc := x_free hD hS hA
      refine va_calll (va_runV (As := [.int 3]) (rest := []) ⟨hx, hb, hml, hown, hts⟩ (x_Model_fails l dC dI cI cJ cB adK adV adA h v H.size n h_41) (cwV 1 hts (tw_GV tw_cons cw_Model_fails lk_Model_596 in_Model_fails sel_Model_fails ini_Model) rfl rfl rfl ⟨rfl, hd_Model_fails⟩ ⟨Nat.le_of_ble_eq_true rfl, Nat.le_of_ble_eq_true rfl⟩) (ypV hK hP hD hS hE hFc yo_12 rfl) rfl rfl hl.1 rfl (lv_room (Nat.le_of_ble_eq_true rfl)) d_Model_values_163 ⟨Nat.le_of_ble_eq_true rfl, Nat.le_of_ble_eq_true rfl⟩) hS (fun q _ h => hFc q h) hFc (fun r9 u9 t9 H locs ht hvm e9 hB hz1 hk1 hS => ?_)
      have e9 : r_46 = r9 := e9
      subst e9
      obtain ⟨hP, hD⟩ := y_aft hB ht hFc
      clear hFc hk1 hz1 hvm hB ht
      refine lv_goto (tgt := 175) hx hb d_Model_values_166 (by decide) ?_
      obtain ⟨e1i, e1j, e1a, e1b, e3⟩ := re4m hm
      obtain ⟨hP, hD⟩ := y_eq e1i e1j e1a e1b hP hD
      exact W.lret hx hb hr (fun t9 ht hW => ⟨⟨_, (), rfl, e3.symm, by rw [ht]; exact hP, hD⟩, hS.F ht⟩) hS.2.2 d_Model_values_175
  replace hm := if_f c_35 hm
  rcases Classical.em (v1 = 38) with c_47 | c_47
  · replace hm := if_t c_47 hm
    refine lv_tableIn (x := v1) (tgt := 176) hx hb d_Model_values_7 (by rw [c_47]; decide) (by rw [c_47]; decide) (by rw [c_47]; rfl) (by decide) ?_
    refine lv_aload_n hx hb d_Model_values_176 rfl (lv_at hl 1 rfl) ?_
    refine lv_lload_n hx hb d_Model_values_177 rfl (lv_at hl 3 rfl) ?_
    obtain ⟨r_49, h_48, hm⟩ := ob0_some hm
    have hFc := x_free0 hS hA
    refine va_calli (va_runV (As := [.long v2]) (rest := []) ⟨hx, hb, hml, hown, hts⟩ (x_Model_size l dC dI cI cJ cB adK adV adA h v s.heap.size n h_48) (cwV 1 hts (tw_GV tw_cons cw_Model_size lk_Model_98 in_Model_size sel_Model_size ini_Model) rfl rfl rfl ⟨rfl, hd_Model_size⟩ ⟨Nat.le_of_ble_eq_true rfl, Nat.le_of_ble_eq_true rfl⟩) (ypVr hK hP hS hE hFc yo_12 rfl) rfl rfl hl.1 rfl (lv_room (Nat.le_of_ble_eq_true rfl)) d_Model_values_178 ⟨Nat.le_of_ble_eq_true rfl, Nat.le_of_ble_eq_true rfl⟩) hS (fun q _ h => hFc q h) hFc (fun r9 u9 t9 H locs ht hvm e9 hB hz1 hk1 hS => ?_)
    have e9 : r_49 = r9 := e9
    subst e9
    replace hP := x_keep hP hk1
    clear hFc hk1 hz1 hvm hB ht
    refine lv_if_ne (tgt := 192) hx hb d_Model_values_181 (by decide) (fun c_50 => ?_) (fun c_50 => ?_)
    · replace hm := if_f c_50 hm
      refine lv_aload_n hx hb d_Model_values_192 rfl (lv_at hl 1 rfl) ?_
      refine lv_lload_n hx hb d_Model_values_193 rfl (lv_at hl 3 rfl) ?_
      refine lv_aload_n hx hb d_Model_values_194 rfl (lv_at hl 1 rfl) ?_
      refine lv_lload_n hx hb d_Model_values_195 rfl (lv_at hl 3 rfl) ?_
      obtain ⟨r_52, h_51, hm⟩ := ob0_some hm
      have hFc := x_free0 hS hA
      refine va_calli (va_runV (As := [.long v2]) (rest := [.long v2, .ref h]) ⟨hx, hb, hml, hown, hts⟩ (x_Model_size l dC dI cI cJ cB adK adV adA h v H.size n h_51) (cwV 1 hts (tw_GV tw_cons cw_Model_size lk_Model_98 in_Model_size sel_Model_size ini_Model) rfl rfl rfl ⟨rfl, hd_Model_size⟩ ⟨Nat.le_of_ble_eq_true rfl, Nat.le_of_ble_eq_true rfl⟩) (ypVr hK hP hS hE hFc yo_12 rfl) rfl rfl hl.1 rfl (lv_room (Nat.le_of_ble_eq_true rfl)) d_Model_values_196 ⟨Nat.le_of_ble_eq_true rfl, Nat.le_of_ble_eq_true rfl⟩) hS (fun q _ h => hFc q h) hFc (fun r9 u9 t9 H locs ht hvm e9 hB hz1 hk1 hS => ?_)
      have e9 : r_52 = r9 := e9
      subst e9
      replace hP := x_keep hP hk1
      clear hFc hk1 hz1 hvm hB ht
      refine lv_iconst (v := 1) hx hb d_Model_values_199 (by decide) ?_
      refine lv_isub hx hb d_Model_values_200 ?_
      obtain ⟨r_54, h_53, hm⟩ := ob0_some hm
      have hFc := x_free0 hS hA
      refine va_calll (va_runV (As := [.long v2, .int (r_52 - 1)]) (rest := []) ⟨hx, hb, hml, hown, hts⟩ (x_Model_member l dC dI cI cJ cB adK adV adA h v H.size n h_53) (cwV 2 hts (tw_GV tw_cons cw_Model_member lk_Model_101 in_Model_member sel_Model_member ini_Model) rfl rfl rfl ⟨rfl, hd_Model_member⟩ ⟨Nat.le_of_ble_eq_true rfl, Nat.le_of_ble_eq_true rfl⟩) (ypVr hK hP hS hE hFc yo_12 rfl) rfl rfl hl.1 rfl (lv_room (Nat.le_of_ble_eq_true rfl)) d_Model_values_201 ⟨Nat.le_of_ble_eq_true rfl, Nat.le_of_ble_eq_true rfl⟩) hS (fun q _ h => hFc q h) hFc (fun r9 u9 t9 H locs ht hvm e9 hB hz1 hk1 hS => ?_)
      have e9 : r_54 = r9 := e9
      subst e9
      replace hP := x_keep hP hk1
      clear hFc hk1 hz1 hvm hB ht
      obtain ⟨e1i, e1j, e1a, e1b, e3⟩ := re4m hm
      obtain ⟨hP, hD⟩ := y_eq e1i e1j e1a e1b hP hD
      exact W.lret hx hb hr (fun t9 ht hW => ⟨⟨_, (), rfl, e3.symm, by rw [ht]; exact hP, hD⟩, hS.F ht⟩) hS.2.2 d_Model_values_204
    · replace hm := if_t c_50 hm
      refine lv_aload_n hx hb d_Model_values_184 rfl (lv_at hl 1 rfl) ?_
      refine lv_iconst (v := 3) hx hb d_Model_values_185 (by decide) ?_
      obtain ⟨i_56, j_57, a_58, b_59, r_60, h_55, hm⟩ := om_some hm
      have hFc := x_free hD hS hA
      refine va_calll (va_runV (As := [.int 3]) (rest := []) ⟨hx, hb, hml, hown, hts⟩ (x_Model_fails l dC dI cI cJ cB adK adV adA h v H.size n h_55) (cwV 1 hts (tw_GV tw_cons cw_Model_fails lk_Model_596 in_Model_fails sel_Model_fails ini_Model) rfl rfl rfl ⟨rfl, hd_Model_fails⟩ ⟨Nat.le_of_ble_eq_true rfl, Nat.le_of_ble_eq_true rfl⟩) (ypV hK hP hD hS hE hFc yo_12 rfl) rfl rfl hl.1 rfl (lv_room (Nat.le_of_ble_eq_true rfl)) d_Model_values_186 ⟨Nat.le_of_ble_eq_true rfl, Nat.le_of_ble_eq_true rfl⟩) hS (fun q _ h => hFc q h) hFc (fun r9 u9 t9 H locs ht hvm e9 hB hz1 hk1 hS => ?_)
      have e9 : r_60 = r9 := e9
      subst e9
      obtain ⟨hP, hD⟩ := y_aft hB ht hFc
      clear hFc hk1 hz1 hvm hB ht
      refine lv_goto (tgt := 204) hx hb d_Model_values_189 (by decide) ?_
      obtain ⟨e1i, e1j, e1a, e1b, e3⟩ := re4m hm
      obtain ⟨hP, hD⟩ := y_eq e1i e1j e1a e1b hP hD
      exact W.lret hx hb hr (fun t9 ht hW => ⟨⟨_, (), rfl, e3.symm, by rw [ht]; exact hP, hD⟩, hS.F ht⟩) hS.2.2 d_Model_values_204
  replace hm := if_f c_47 hm
  rcases Classical.em (v1 = 39) with c_61 | c_61
  · replace hm := if_t c_61 hm
    refine lv_tableIn (x := v1) (tgt := 267) hx hb d_Model_values_7 (by rw [c_61]; decide) (by rw [c_61]; decide) (by rw [c_61]; rfl) (by decide) ?_
    refine lv_aload_n hx hb d_Model_values_267 rfl (lv_at hl 1 rfl) ?_
    refine lv_lload_n hx hb d_Model_values_268 rfl (lv_at hl 3 rfl) ?_
    obtain ⟨r_63, h_62, hm⟩ := ob0_some hm
    have hFc := x_free0 hS hA
    refine va_calli (va_runV (As := [.long v2]) (rest := []) ⟨hx, hb, hml, hown, hts⟩ (x_Model_size l dC dI cI cJ cB adK adV adA h v s.heap.size n h_62) (cwV 1 hts (tw_GV tw_cons cw_Model_size lk_Model_98 in_Model_size sel_Model_size ini_Model) rfl rfl rfl ⟨rfl, hd_Model_size⟩ ⟨Nat.le_of_ble_eq_true rfl, Nat.le_of_ble_eq_true rfl⟩) (ypVr hK hP hS hE hFc yo_12 rfl) rfl rfl hl.1 rfl (lv_room (Nat.le_of_ble_eq_true rfl)) d_Model_values_269 ⟨Nat.le_of_ble_eq_true rfl, Nat.le_of_ble_eq_true rfl⟩) hS (fun q _ h => hFc q h) hFc (fun r9 u9 t9 H locs ht hvm e9 hB hz1 hk1 hS => ?_)
    have e9 : r_63 = r9 := e9
    subst e9
    replace hP := x_keep hP hk1
    clear hFc hk1 hz1 hvm hB ht
    refine lv_if_ne (tgt := 281) hx hb d_Model_values_272 (by decide) (fun c_64 => ?_) (fun c_64 => ?_)
    · replace hm := if_f c_64 hm
      refine lv_iload_n hx hb d_Model_values_281 rfl (lv_at hl 2 rfl) ?_
      refine lv_bipush (v := 39) hx hb d_Model_values_282 (by decide) ?_
      refine lv_icmp_ne (tgt := 291) hx hb d_Model_values_284 (by decide) (fun c_65 => ?_) (fun c_65 => ?_)
      · replace hm := if_f c_65 hm
        refine lv_iconst (v := 0) hx hb d_Model_values_291 (by decide) ?_
        exact lb_Model_values_292 l dC dI cI cJ cB adK adV adA h v n hx hb hml hown hts hK hE hA hr hlocks _ _ _ _ _ _ _ _ hm _ _ _ hP hD hS (lv_sub hl [1, 2, 3, 0] rfl)
      · replace hm := if_t c_65 hm
        refine lv_iconst (v := 1) hx hb d_Model_values_287 (by decide) ?_
        refine lv_goto (tgt := 292) hx hb d_Model_values_288 (by decide) ?_
        exact lb_Model_values_292 l dC dI cI cJ cB adK adV adA h v n hx hb hml hown hts hK hE hA hr hlocks _ _ _ _ _ _ _ _ hm _ _ _ hP hD hS (lv_sub hl [1, 2, 3, 0] rfl)
    · replace hm := if_t c_64 hm
      refine lv_aload_n hx hb d_Model_values_275 rfl (lv_at hl 1 rfl) ?_
      refine lv_iconst (v := 3) hx hb d_Model_values_276 (by decide) ?_
      obtain ⟨i_67, j_68, a_69, b_70, r_71, h_66, hm⟩ := om_some hm
      have hFc := x_free hD hS hA
      refine va_calll (va_runV (As := [.int 3]) (rest := []) ⟨hx, hb, hml, hown, hts⟩ (x_Model_fails l dC dI cI cJ cB adK adV adA h v H.size n h_66) (cwV 1 hts (tw_GV tw_cons cw_Model_fails lk_Model_596 in_Model_fails sel_Model_fails ini_Model) rfl rfl rfl ⟨rfl, hd_Model_fails⟩ ⟨Nat.le_of_ble_eq_true rfl, Nat.le_of_ble_eq_true rfl⟩) (ypV hK hP hD hS hE hFc yo_12 rfl) rfl rfl hl.1 rfl (lv_room (Nat.le_of_ble_eq_true rfl)) d_Model_values_277 ⟨Nat.le_of_ble_eq_true rfl, Nat.le_of_ble_eq_true rfl⟩) hS (fun q _ h => hFc q h) hFc (fun r9 u9 t9 H locs ht hvm e9 hB hz1 hk1 hS => ?_)
      have e9 : r_71 = r9 := e9
      subst e9
      obtain ⟨hP, hD⟩ := y_aft hB ht hFc
      clear hFc hk1 hz1 hvm hB ht
      obtain ⟨e1i, e1j, e1a, e1b, e3⟩ := re4m hm
      obtain ⟨hP, hD⟩ := y_eq e1i e1j e1a e1b hP hD
      exact W.lret hx hb hr (fun t9 ht hW => ⟨⟨_, (), rfl, e3.symm, by rw [ht]; exact hP, hD⟩, hS.F ht⟩) hS.2.2 d_Model_values_280
  replace hm := if_f c_61 hm
  rcases Classical.em (v1 = 40) with c_72 | c_72
  · replace hm := if_t c_72 hm
    refine lv_tableIn (x := v1) (tgt := 267) hx hb d_Model_values_7 (by rw [c_72]; decide) (by rw [c_72]; decide) (by rw [c_72]; rfl) (by decide) ?_
    refine lv_aload_n hx hb d_Model_values_267 rfl (lv_at hl 1 rfl) ?_
    refine lv_lload_n hx hb d_Model_values_268 rfl (lv_at hl 3 rfl) ?_
    obtain ⟨r_74, h_73, hm⟩ := ob0_some hm
    have hFc := x_free0 hS hA
    refine va_calli (va_runV (As := [.long v2]) (rest := []) ⟨hx, hb, hml, hown, hts⟩ (x_Model_size l dC dI cI cJ cB adK adV adA h v s.heap.size n h_73) (cwV 1 hts (tw_GV tw_cons cw_Model_size lk_Model_98 in_Model_size sel_Model_size ini_Model) rfl rfl rfl ⟨rfl, hd_Model_size⟩ ⟨Nat.le_of_ble_eq_true rfl, Nat.le_of_ble_eq_true rfl⟩) (ypVr hK hP hS hE hFc yo_12 rfl) rfl rfl hl.1 rfl (lv_room (Nat.le_of_ble_eq_true rfl)) d_Model_values_269 ⟨Nat.le_of_ble_eq_true rfl, Nat.le_of_ble_eq_true rfl⟩) hS (fun q _ h => hFc q h) hFc (fun r9 u9 t9 H locs ht hvm e9 hB hz1 hk1 hS => ?_)
    have e9 : r_74 = r9 := e9
    subst e9
    replace hP := x_keep hP hk1
    clear hFc hk1 hz1 hvm hB ht
    refine lv_if_ne (tgt := 281) hx hb d_Model_values_272 (by decide) (fun c_75 => ?_) (fun c_75 => ?_)
    · replace hm := if_f c_75 hm
      refine lv_iload_n hx hb d_Model_values_281 rfl (lv_at hl 2 rfl) ?_
      refine lv_bipush (v := 39) hx hb d_Model_values_282 (by decide) ?_
      refine lv_icmp_ne (tgt := 291) hx hb d_Model_values_284 (by decide) (fun c_76 => ?_) (fun c_76 => ?_)
      · replace hm := if_f c_76 hm
        refine lv_iconst (v := 0) hx hb d_Model_values_291 (by decide) ?_
        exact lb_Model_values_292 l dC dI cI cJ cB adK adV adA h v n hx hb hml hown hts hK hE hA hr hlocks _ _ _ _ _ _ _ _ hm _ _ _ hP hD hS (lv_sub hl [1, 2, 3, 0] rfl)
      · replace hm := if_t c_76 hm
        refine lv_iconst (v := 1) hx hb d_Model_values_287 (by decide) ?_
        refine lv_goto (tgt := 292) hx hb d_Model_values_288 (by decide) ?_
        exact lb_Model_values_292 l dC dI cI cJ cB adK adV adA h v n hx hb hml hown hts hK hE hA hr hlocks _ _ _ _ _ _ _ _ hm _ _ _ hP hD hS (lv_sub hl [1, 2, 3, 0] rfl)
    · replace hm := if_t c_75 hm
      refine lv_aload_n hx hb d_Model_values_275 rfl (lv_at hl 1 rfl) ?_
      refine lv_iconst (v := 3) hx hb d_Model_values_276 (by decide) ?_
      obtain ⟨i_78, j_79, a_80, b_81, r_82, h_77, hm⟩ := om_some hm
      have hFc := x_free hD hS hA
      refine va_calll (va_runV (As := [.int 3]) (rest := []) ⟨hx, hb, hml, hown, hts⟩ (x_Model_fails l dC dI cI cJ cB adK adV adA h v H.size n h_77) (cwV 1 hts (tw_GV tw_cons cw_Model_fails lk_Model_596 in_Model_fails sel_Model_fails ini_Model) rfl rfl rfl ⟨rfl, hd_Model_fails⟩ ⟨Nat.le_of_ble_eq_true rfl, Nat.le_of_ble_eq_true rfl⟩) (ypV hK hP hD hS hE hFc yo_12 rfl) rfl rfl hl.1 rfl (lv_room (Nat.le_of_ble_eq_true rfl)) d_Model_values_277 ⟨Nat.le_of_ble_eq_true rfl, Nat.le_of_ble_eq_true rfl⟩) hS (fun q _ h => hFc q h) hFc (fun r9 u9 t9 H locs ht hvm e9 hB hz1 hk1 hS => ?_)
      have e9 : r_82 = r9 := e9
      subst e9
      obtain ⟨hP, hD⟩ := y_aft hB ht hFc
      clear hFc hk1 hz1 hvm hB ht
      obtain ⟨e1i, e1j, e1a, e1b, e3⟩ := re4m hm
      obtain ⟨hP, hD⟩ := y_eq e1i e1j e1a e1b hP hD
      exact W.lret hx hb hr (fun t9 ht hW => ⟨⟨_, (), rfl, e3.symm, by rw [ht]; exact hP, hD⟩, hS.F ht⟩) hS.2.2 d_Model_values_280
  replace hm := if_f c_72 hm
  rcases Classical.em (v1 = 41) with c_83 | c_83
  · replace hm := if_t c_83 hm
    refine lv_tableIn (x := v1) (tgt := 205) hx hb d_Model_values_7 (by rw [c_83]; decide) (by rw [c_83]; decide) (by rw [c_83]; rfl) (by decide) ?_
    refine lv_lload_n hx hb d_Model_values_205 rfl (lv_at hl 3 rfl) ?_
    obtain ⟨r_85, h_84, hm⟩ := ob0_some hm
    have hFc := x_free0 hS hA
    refine va_calli (va_runS (As := [.long v2]) (rest := []) ⟨hx, hb, hml, hown, hts⟩ (x_Model_what l s.heap.size n h_84) (va_cwS 1 hts (tw_GS tw_cons cw_Model_what lk_Model_64 st_Model_what ini_Model) rfl rfl rfl hd_Model_what ⟨Nat.le_of_ble_eq_true rfl, Nat.le_of_ble_eq_true rfl⟩) xpS0 rfl rfl hl.1 rfl (lv_room (Nat.le_of_ble_eq_true rfl)) d_Model_values_206 ⟨Nat.le_of_ble_eq_true rfl, Nat.le_of_ble_eq_true rfl⟩) hS (fun q _ h => hFc q h) hFc (fun r9 u9 t9 H locs ht hvm e9 hB hz1 hk1 hS => ?_)
    have e9 : r_85 = r9 := e9
    subst e9
    replace hP := x_keep hP hk1
    clear hFc hk1 hz1 hvm hB ht
    refine lv_iconst (v := 1) hx hb d_Model_values_209 (by decide) ?_
    refine lv_icmp_lt (tgt := 226) hx hb d_Model_values_210 (by decide) (fun c_86 => ?_) (fun c_86 => ?_)
    · replace hm := if_t c_86 hm
      exact lb_Model_values_226 l dC dI cI cJ cB adK adV adA h v n hx hb hml hown hts hK hE hA hr hlocks _ _ _ _ hm _ _ _ hP hD hS (lv_sub hl [1] rfl)
    · replace hm := if_f c_86 hm
      refine lv_lload_n hx hb d_Model_values_213 rfl (lv_at hl 3 rfl) ?_
      obtain ⟨r_88, h_87, hm⟩ := ob0_some hm
      have hFc := x_free0 hS hA
      refine va_calli (va_runS (As := [.long v2]) (rest := []) ⟨hx, hb, hml, hown, hts⟩ (x_Model_what l H.size n h_87) (va_cwS 1 hts (tw_GS tw_cons cw_Model_what lk_Model_64 st_Model_what ini_Model) rfl rfl rfl hd_Model_what ⟨Nat.le_of_ble_eq_true rfl, Nat.le_of_ble_eq_true rfl⟩) xpS0 rfl rfl hl.1 rfl (lv_room (Nat.le_of_ble_eq_true rfl)) d_Model_values_214 ⟨Nat.le_of_ble_eq_true rfl, Nat.le_of_ble_eq_true rfl⟩) hS (fun q _ h => hFc q h) hFc (fun r9 u9 t9 H locs ht hvm e9 hB hz1 hk1 hS => ?_)
      have e9 : r_88 = r9 := e9
      subst e9
      replace hP := x_keep hP hk1
      clear hFc hk1 hz1 hvm hB ht
      refine lv_aload_n hx hb d_Model_values_217 rfl (lv_at hl 1 rfl) ?_
      refine lv_lload hx hb d_Model_values_218 (lv_at hl 4 rfl) ?_
      obtain ⟨r_90, h_89, hm⟩ := ob0_some hm
      have hFc := x_free0 hS hA
      refine va_calli (va_runV (As := [.long v4]) (rest := [.int r_88]) ⟨hx, hb, hml, hown, hts⟩ (x_Model_size l dC dI cI cJ cB adK adV adA h v H.size n h_89) (cwV 1 hts (tw_GV tw_cons cw_Model_size lk_Model_98 in_Model_size sel_Model_size ini_Model) rfl rfl rfl ⟨rfl, hd_Model_size⟩ ⟨Nat.le_of_ble_eq_true rfl, Nat.le_of_ble_eq_true rfl⟩) (ypVr hK hP hS hE hFc yo_12 rfl) rfl rfl hl.1 rfl (lv_room (Nat.le_of_ble_eq_true rfl)) d_Model_values_220 ⟨Nat.le_of_ble_eq_true rfl, Nat.le_of_ble_eq_true rfl⟩) hS (fun q _ h => hFc q h) hFc (fun r9 u9 t9 H locs ht hvm e9 hB hz1 hk1 hS => ?_)
      have e9 : r_90 = r9 := e9
      subst e9
      replace hP := x_keep hP hk1
      clear hFc hk1 hz1 hvm hB ht
      refine lv_icmp_le (tgt := 234) hx hb d_Model_values_223 (by decide) (fun c_91 => ?_) (fun c_91 => ?_)
      · replace hm := if_t c_91 hm
        refine lv_aload_n hx hb d_Model_values_234 rfl (lv_at hl 1 rfl) ?_
        refine lv_lload hx hb d_Model_values_235 (lv_at hl 4 rfl) ?_
        refine lv_lload_n hx hb d_Model_values_237 rfl (lv_at hl 3 rfl) ?_
        obtain ⟨r_93, h_92, hm⟩ := ob0_some hm
        have hFc := x_free0 hS hA
        refine va_calli (va_runS (As := [.long v2]) (rest := [.long v4, .ref h]) ⟨hx, hb, hml, hown, hts⟩ (x_Model_what l H.size n h_92) (va_cwS 1 hts (tw_GS tw_cons cw_Model_what lk_Model_64 st_Model_what ini_Model) rfl rfl rfl hd_Model_what ⟨Nat.le_of_ble_eq_true rfl, Nat.le_of_ble_eq_true rfl⟩) xpS0 rfl rfl hl.1 rfl (lv_room (Nat.le_of_ble_eq_true rfl)) d_Model_values_238 ⟨Nat.le_of_ble_eq_true rfl, Nat.le_of_ble_eq_true rfl⟩) hS (fun q _ h => hFc q h) hFc (fun r9 u9 t9 H locs ht hvm e9 hB hz1 hk1 hS => ?_)
        have e9 : r_93 = r9 := e9
        subst e9
        replace hP := x_keep hP hk1
        clear hFc hk1 hz1 hvm hB ht
        refine lv_iconst (v := 1) hx hb d_Model_values_241 (by decide) ?_
        refine lv_isub hx hb d_Model_values_242 ?_
        obtain ⟨r_95, h_94, hm⟩ := ob0_some hm
        have hFc := x_free0 hS hA
        refine va_calll (va_runV (As := [.long v4, .int (r_93 - 1)]) (rest := []) ⟨hx, hb, hml, hown, hts⟩ (x_Model_member l dC dI cI cJ cB adK adV adA h v H.size n h_94) (cwV 2 hts (tw_GV tw_cons cw_Model_member lk_Model_101 in_Model_member sel_Model_member ini_Model) rfl rfl rfl ⟨rfl, hd_Model_member⟩ ⟨Nat.le_of_ble_eq_true rfl, Nat.le_of_ble_eq_true rfl⟩) (ypVr hK hP hS hE hFc yo_12 rfl) rfl rfl hl.1 rfl (lv_room (Nat.le_of_ble_eq_true rfl)) d_Model_values_243 ⟨Nat.le_of_ble_eq_true rfl, Nat.le_of_ble_eq_true rfl⟩) hS (fun q _ h => hFc q h) hFc (fun r9 u9 t9 H locs ht hvm e9 hB hz1 hk1 hS => ?_)
        have e9 : r_95 = r9 := e9
        subst e9
        replace hP := x_keep hP hk1
        clear hFc hk1 hz1 hvm hB ht
        obtain ⟨e1i, e1j, e1a, e1b, e3⟩ := re4m hm
        obtain ⟨hP, hD⟩ := y_eq e1i e1j e1a e1b hP hD
        exact W.lret hx hb hr (fun t9 ht hW => ⟨⟨_, (), rfl, e3.symm, by rw [ht]; exact hP, hD⟩, hS.F ht⟩) hS.2.2 d_Model_values_246
      · replace hm := if_f c_91 hm
        exact lb_Model_values_226 l dC dI cI cJ cB adK adV adA h v n hx hb hml hown hts hK hE hA hr hlocks _ _ _ _ hm _ _ _ hP hD hS (lv_sub hl [1] rfl)
  replace hm := if_f c_83 hm
  rcases Classical.em (v1 = 42) with c_96 | c_96
  · replace hm := if_t c_96 hm
    refine lv_tableIn (x := v1) (tgt := 340) hx hb d_Model_values_7 (by rw [c_96]; decide) (by rw [c_96]; decide) (by rw [c_96]; rfl) (by decide) ?_
    refine lv_aload_n hx hb d_Model_values_340 rfl (lv_at hl 1 rfl) ?_
    refine lv_lload_n hx hb d_Model_values_341 rfl (lv_at hl 3 rfl) ?_
    obtain ⟨i_98, j_99, a_100, b_101, r_102, h_97, hm⟩ := om_some hm
    have hFc := x_free hD hS hA
    refine va_callv (va_runV (As := [.long v2]) (rest := []) ⟨hx, hb, hml, hown, hts⟩ (x_Model_put l dC dI cI cJ cB adK adV adA h v s.heap.size n h_97) (cwV 1 hts (tw_GV tw_cons cw_Model_put lk_Model_465 in_Model_put sel_Model_put ini_Model) rfl rfl rfl ⟨rfl, hd_Model_put⟩ ⟨Nat.le_of_ble_eq_true rfl, Nat.le_of_ble_eq_true rfl⟩) (ypV hK hP hD hS hE hFc yo_12 rfl) rfl rfl hl.1 rfl (lv_room (Nat.le_of_ble_eq_true rfl)) d_Model_values_342 ⟨Nat.le_of_ble_eq_true rfl, Nat.le_of_ble_eq_true rfl⟩) hS (fun q _ h => hFc q h) hFc (fun u9 t9 H locs ht hvm e9 hB hz1 hk1 hS => ?_)
    obtain ⟨hP, hD⟩ := y_aft hB ht hFc
    clear hFc hk1 hz1 hvm hB ht
    refine lv_aload_n hx hb d_Model_values_345 rfl (lv_at hl 1 rfl) ?_
    refine lv_lload hx hb d_Model_values_346 (lv_at hl 4 rfl) ?_
    obtain ⟨i_104, j_105, a_106, b_107, r_108, h_103, hm⟩ := om_some hm
    have hFc := x_free hD hS hA
    refine va_callv (va_runV (As := [.long v4]) (rest := []) ⟨hx, hb, hml, hown, hts⟩ (x_Model_putAll l dC dI cI cJ cB adK adV adA h v H.size n h_103) (cwV 1 hts (tw_GV tw_cons cw_Model_putAll lk_Model_750 in_Model_putAll sel_Model_putAll ini_Model) rfl rfl rfl ⟨rfl, hd_Model_putAll⟩ ⟨Nat.le_of_ble_eq_true rfl, Nat.le_of_ble_eq_true rfl⟩) (ypV hK hP hD hS hE hFc yo_12 rfl) rfl rfl hl.1 rfl (lv_room (Nat.le_of_ble_eq_true rfl)) d_Model_values_348 ⟨Nat.le_of_ble_eq_true rfl, Nat.le_of_ble_eq_true rfl⟩) hS (fun q _ h => hFc q h) hFc (fun u9 t9 H locs ht hvm e9 hB hz1 hk1 hS => ?_)
    obtain ⟨hP, hD⟩ := y_aft hB ht hFc
    clear hFc hk1 hz1 hvm hB ht
    refine lv_aload_n hx hb d_Model_values_351 rfl (lv_at hl 1 rfl) ?_
    refine lv_iload hx hb d_Model_values_352 (lv_at hl 0 rfl) ?_
    obtain ⟨i_110, j_111, a_112, b_113, r_114, h_109, hm⟩ := om_some hm
    have hFc := x_free hD hS hA
    refine va_calll (va_runV (As := [.int x_1]) (rest := []) ⟨hx, hb, hml, hown, hts⟩ (x_Model_listed l dC dI cI cJ cB adK adV adA h v H.size n h_109) (cwV 1 hts (tw_GV tw_cons cw_Model_listed lk_Model_747 in_Model_listed sel_Model_listed ini_Model) rfl rfl rfl ⟨rfl, hd_Model_listed⟩ ⟨Nat.le_of_ble_eq_true rfl, Nat.le_of_ble_eq_true rfl⟩) (ypV hK hP hD hS hE hFc yo_12 rfl) rfl rfl hl.1 rfl (lv_room (Nat.le_of_ble_eq_true rfl)) d_Model_values_354 ⟨Nat.le_of_ble_eq_true rfl, Nat.le_of_ble_eq_true rfl⟩) hS (fun q _ h => hFc q h) hFc (fun r9 u9 t9 H locs ht hvm e9 hB hz1 hk1 hS => ?_)
    have e9 : r_114 = r9 := e9
    subst e9
    obtain ⟨hP, hD⟩ := y_aft hB ht hFc
    clear hFc hk1 hz1 hvm hB ht
    obtain ⟨e1i, e1j, e1a, e1b, e3⟩ := re4m hm
    obtain ⟨hP, hD⟩ := y_eq e1i e1j e1a e1b hP hD
    exact W.lret hx hb hr (fun t9 ht hW => ⟨⟨_, (), rfl, e3.symm, by rw [ht]; exact hP, hD⟩, hS.F ht⟩) hS.2.2 d_Model_values_357
  replace hm := if_f c_96 hm
  rcases Classical.em (v1 = 43) with c_115 | c_115
  · replace hm := if_t c_115 hm
    refine lv_tableIn (x := v1) (tgt := 358) hx hb d_Model_values_7 (by rw [c_115]; decide) (by rw [c_115]; decide) (by rw [c_115]; rfl) (by decide) ?_
    refine lv_aload_n hx hb d_Model_values_358 rfl (lv_at hl 1 rfl) ?_
    refine lv_lload hx hb d_Model_values_359 (lv_at hl 4 rfl) ?_
    obtain ⟨i_117, j_118, a_119, b_120, r_121, h_116, hm⟩ := om_some hm
    have hFc := x_free hD hS hA
    refine va_callv (va_runV (As := [.long v4]) (rest := []) ⟨hx, hb, hml, hown, hts⟩ (x_Model_putAll l dC dI cI cJ cB adK adV adA h v s.heap.size n h_116) (cwV 1 hts (tw_GV tw_cons cw_Model_putAll lk_Model_750 in_Model_putAll sel_Model_putAll ini_Model) rfl rfl rfl ⟨rfl, hd_Model_putAll⟩ ⟨Nat.le_of_ble_eq_true rfl, Nat.le_of_ble_eq_true rfl⟩) (ypV hK hP hD hS hE hFc yo_12 rfl) rfl rfl hl.1 rfl (lv_room (Nat.le_of_ble_eq_true rfl)) d_Model_values_361 ⟨Nat.le_of_ble_eq_true rfl, Nat.le_of_ble_eq_true rfl⟩) hS (fun q _ h => hFc q h) hFc (fun u9 t9 H locs ht hvm e9 hB hz1 hk1 hS => ?_)
    obtain ⟨hP, hD⟩ := y_aft hB ht hFc
    clear hFc hk1 hz1 hvm hB ht
    refine lv_aload_n hx hb d_Model_values_364 rfl (lv_at hl 1 rfl) ?_
    refine lv_lload_n hx hb d_Model_values_365 rfl (lv_at hl 3 rfl) ?_
    obtain ⟨i_123, j_124, a_125, b_126, r_127, h_122, hm⟩ := om_some hm
    have hFc := x_free hD hS hA
    refine va_callv (va_runV (As := [.long v2]) (rest := []) ⟨hx, hb, hml, hown, hts⟩ (x_Model_put l dC dI cI cJ cB adK adV adA h v H.size n h_122) (cwV 1 hts (tw_GV tw_cons cw_Model_put lk_Model_465 in_Model_put sel_Model_put ini_Model) rfl rfl rfl ⟨rfl, hd_Model_put⟩ ⟨Nat.le_of_ble_eq_true rfl, Nat.le_of_ble_eq_true rfl⟩) (ypV hK hP hD hS hE hFc yo_12 rfl) rfl rfl hl.1 rfl (lv_room (Nat.le_of_ble_eq_true rfl)) d_Model_values_366 ⟨Nat.le_of_ble_eq_true rfl, Nat.le_of_ble_eq_true rfl⟩) hS (fun q _ h => hFc q h) hFc (fun u9 t9 H locs ht hvm e9 hB hz1 hk1 hS => ?_)
    obtain ⟨hP, hD⟩ := y_aft hB ht hFc
    clear hFc hk1 hz1 hvm hB ht
    refine lv_aload_n hx hb d_Model_values_369 rfl (lv_at hl 1 rfl) ?_
    refine lv_iload hx hb d_Model_values_370 (lv_at hl 0 rfl) ?_
    obtain ⟨i_129, j_130, a_131, b_132, r_133, h_128, hm⟩ := om_some hm
    have hFc := x_free hD hS hA
    refine va_calll (va_runV (As := [.int x_1]) (rest := []) ⟨hx, hb, hml, hown, hts⟩ (x_Model_listed l dC dI cI cJ cB adK adV adA h v H.size n h_128) (cwV 1 hts (tw_GV tw_cons cw_Model_listed lk_Model_747 in_Model_listed sel_Model_listed ini_Model) rfl rfl rfl ⟨rfl, hd_Model_listed⟩ ⟨Nat.le_of_ble_eq_true rfl, Nat.le_of_ble_eq_true rfl⟩) (ypV hK hP hD hS hE hFc yo_12 rfl) rfl rfl hl.1 rfl (lv_room (Nat.le_of_ble_eq_true rfl)) d_Model_values_372 ⟨Nat.le_of_ble_eq_true rfl, Nat.le_of_ble_eq_true rfl⟩) hS (fun q _ h => hFc q h) hFc (fun r9 u9 t9 H locs ht hvm e9 hB hz1 hk1 hS => ?_)
    have e9 : r_133 = r9 := e9
    subst e9
    obtain ⟨hP, hD⟩ := y_aft hB ht hFc
    clear hFc hk1 hz1 hvm hB ht
    obtain ⟨e1i, e1j, e1a, e1b, e3⟩ := re4m hm
    obtain ⟨hP, hD⟩ := y_eq e1i e1j e1a e1b hP hD
    exact W.lret hx hb hr (fun t9 ht hW => ⟨⟨_, (), rfl, e3.symm, by rw [ht]; exact hP, hD⟩, hS.F ht⟩) hS.2.2 d_Model_values_375
  replace hm := if_f c_115 hm
  rcases Classical.em (v1 = 44) with c_134 | c_134
  · replace hm := if_t c_134 hm
    refine lv_tableIn (x := v1) (tgt := 376) hx hb d_Model_values_7 (by rw [c_134]; decide) (by rw [c_134]; decide) (by rw [c_134]; rfl) (by decide) ?_
    refine lv_aload_n hx hb d_Model_values_376 rfl (lv_at hl 1 rfl) ?_
    refine lv_lload_n hx hb d_Model_values_377 rfl (lv_at hl 3 rfl) ?_
    obtain ⟨i_136, j_137, a_138, b_139, r_140, h_135, hm⟩ := om_some hm
    have hFc := x_free hD hS hA
    refine va_callv (va_runV (As := [.long v2]) (rest := []) ⟨hx, hb, hml, hown, hts⟩ (x_Model_putAll l dC dI cI cJ cB adK adV adA h v s.heap.size n h_135) (cwV 1 hts (tw_GV tw_cons cw_Model_putAll lk_Model_750 in_Model_putAll sel_Model_putAll ini_Model) rfl rfl rfl ⟨rfl, hd_Model_putAll⟩ ⟨Nat.le_of_ble_eq_true rfl, Nat.le_of_ble_eq_true rfl⟩) (ypV hK hP hD hS hE hFc yo_12 rfl) rfl rfl hl.1 rfl (lv_room (Nat.le_of_ble_eq_true rfl)) d_Model_values_378 ⟨Nat.le_of_ble_eq_true rfl, Nat.le_of_ble_eq_true rfl⟩) hS (fun q _ h => hFc q h) hFc (fun u9 t9 H locs ht hvm e9 hB hz1 hk1 hS => ?_)
    obtain ⟨hP, hD⟩ := y_aft hB ht hFc
    clear hFc hk1 hz1 hvm hB ht
    refine lv_aload_n hx hb d_Model_values_381 rfl (lv_at hl 1 rfl) ?_
    refine lv_lload hx hb d_Model_values_382 (lv_at hl 4 rfl) ?_
    obtain ⟨i_142, j_143, a_144, b_145, r_146, h_141, hm⟩ := om_some hm
    have hFc := x_free hD hS hA
    refine va_callv (va_runV (As := [.long v4]) (rest := []) ⟨hx, hb, hml, hown, hts⟩ (x_Model_putAll l dC dI cI cJ cB adK adV adA h v H.size n h_141) (cwV 1 hts (tw_GV tw_cons cw_Model_putAll lk_Model_750 in_Model_putAll sel_Model_putAll ini_Model) rfl rfl rfl ⟨rfl, hd_Model_putAll⟩ ⟨Nat.le_of_ble_eq_true rfl, Nat.le_of_ble_eq_true rfl⟩) (ypV hK hP hD hS hE hFc yo_12 rfl) rfl rfl hl.1 rfl (lv_room (Nat.le_of_ble_eq_true rfl)) d_Model_values_384 ⟨Nat.le_of_ble_eq_true rfl, Nat.le_of_ble_eq_true rfl⟩) hS (fun q _ h => hFc q h) hFc (fun u9 t9 H locs ht hvm e9 hB hz1 hk1 hS => ?_)
    obtain ⟨hP, hD⟩ := y_aft hB ht hFc
    clear hFc hk1 hz1 hvm hB ht
    refine lv_aload_n hx hb d_Model_values_387 rfl (lv_at hl 1 rfl) ?_
    refine lv_iload hx hb d_Model_values_388 (lv_at hl 0 rfl) ?_
    obtain ⟨i_148, j_149, a_150, b_151, r_152, h_147, hm⟩ := om_some hm
    have hFc := x_free hD hS hA
    refine va_calll (va_runV (As := [.int x_1]) (rest := []) ⟨hx, hb, hml, hown, hts⟩ (x_Model_listed l dC dI cI cJ cB adK adV adA h v H.size n h_147) (cwV 1 hts (tw_GV tw_cons cw_Model_listed lk_Model_747 in_Model_listed sel_Model_listed ini_Model) rfl rfl rfl ⟨rfl, hd_Model_listed⟩ ⟨Nat.le_of_ble_eq_true rfl, Nat.le_of_ble_eq_true rfl⟩) (ypV hK hP hD hS hE hFc yo_12 rfl) rfl rfl hl.1 rfl (lv_room (Nat.le_of_ble_eq_true rfl)) d_Model_values_390 ⟨Nat.le_of_ble_eq_true rfl, Nat.le_of_ble_eq_true rfl⟩) hS (fun q _ h => hFc q h) hFc (fun r9 u9 t9 H locs ht hvm e9 hB hz1 hk1 hS => ?_)
    have e9 : r_152 = r9 := e9
    subst e9
    obtain ⟨hP, hD⟩ := y_aft hB ht hFc
    clear hFc hk1 hz1 hvm hB ht
    obtain ⟨e1i, e1j, e1a, e1b, e3⟩ := re4m hm
    obtain ⟨hP, hD⟩ := y_eq e1i e1j e1a e1b hP hD
    exact W.lret hx hb hr (fun t9 ht hW => ⟨⟨_, (), rfl, e3.symm, by rw [ht]; exact hP, hD⟩, hS.F ht⟩) hS.2.2 d_Model_values_393
  replace hm := if_f c_134 hm
  rcases Classical.em (v1 = 45) with c_153 | c_153
  · replace hm := if_t c_153 hm
    refine lv_tableIn (x := v1) (tgt := 394) hx hb d_Model_values_7 (by rw [c_153]; decide) (by rw [c_153]; decide) (by rw [c_153]; rfl) (by decide) ?_
    refine lv_aload_n hx hb d_Model_values_394 rfl (lv_at hl 1 rfl) ?_
    refine lv_lload_n hx hb d_Model_values_395 rfl (lv_at hl 3 rfl) ?_
    obtain ⟨i_155, j_156, a_157, b_158, r_159, h_154, hm⟩ := om_some hm
    have hFc := x_free hD hS hA
    refine va_callv (va_runV (As := [.long v2]) (rest := []) ⟨hx, hb, hml, hown, hts⟩ (x_Model_put l dC dI cI cJ cB adK adV adA h v s.heap.size n h_154) (cwV 1 hts (tw_GV tw_cons cw_Model_put lk_Model_465 in_Model_put sel_Model_put ini_Model) rfl rfl rfl ⟨rfl, hd_Model_put⟩ ⟨Nat.le_of_ble_eq_true rfl, Nat.le_of_ble_eq_true rfl⟩) (ypV hK hP hD hS hE hFc yo_12 rfl) rfl rfl hl.1 rfl (lv_room (Nat.le_of_ble_eq_true rfl)) d_Model_values_396 ⟨Nat.le_of_ble_eq_true rfl, Nat.le_of_ble_eq_true rfl⟩) hS (fun q _ h => hFc q h) hFc (fun u9 t9 H locs ht hvm e9 hB hz1 hk1 hS => ?_)
    obtain ⟨hP, hD⟩ := y_aft hB ht hFc
    clear hFc hk1 hz1 hvm hB ht
    refine lv_aload_n hx hb d_Model_values_399 rfl (lv_at hl 1 rfl) ?_
    refine lv_lload hx hb d_Model_values_400 (lv_at hl 4 rfl) ?_
    obtain ⟨i_161, j_162, a_163, b_164, r_165, h_160, hm⟩ := om_some hm
    have hFc := x_free hD hS hA
    refine va_callv (va_runV (As := [.long v4]) (rest := []) ⟨hx, hb, hml, hown, hts⟩ (x_Model_put l dC dI cI cJ cB adK adV adA h v H.size n h_160) (cwV 1 hts (tw_GV tw_cons cw_Model_put lk_Model_465 in_Model_put sel_Model_put ini_Model) rfl rfl rfl ⟨rfl, hd_Model_put⟩ ⟨Nat.le_of_ble_eq_true rfl, Nat.le_of_ble_eq_true rfl⟩) (ypV hK hP hD hS hE hFc yo_12 rfl) rfl rfl hl.1 rfl (lv_room (Nat.le_of_ble_eq_true rfl)) d_Model_values_402 ⟨Nat.le_of_ble_eq_true rfl, Nat.le_of_ble_eq_true rfl⟩) hS (fun q _ h => hFc q h) hFc (fun u9 t9 H locs ht hvm e9 hB hz1 hk1 hS => ?_)
    obtain ⟨hP, hD⟩ := y_aft hB ht hFc
    clear hFc hk1 hz1 hvm hB ht
    refine lv_aload_n hx hb d_Model_values_405 rfl (lv_at hl 1 rfl) ?_
    refine lv_iload hx hb d_Model_values_406 (lv_at hl 0 rfl) ?_
    obtain ⟨i_167, j_168, a_169, b_170, r_171, h_166, hm⟩ := om_some hm
    have hFc := x_free hD hS hA
    refine va_calll (va_runV (As := [.int x_1]) (rest := []) ⟨hx, hb, hml, hown, hts⟩ (x_Model_listed l dC dI cI cJ cB adK adV adA h v H.size n h_166) (cwV 1 hts (tw_GV tw_cons cw_Model_listed lk_Model_747 in_Model_listed sel_Model_listed ini_Model) rfl rfl rfl ⟨rfl, hd_Model_listed⟩ ⟨Nat.le_of_ble_eq_true rfl, Nat.le_of_ble_eq_true rfl⟩) (ypV hK hP hD hS hE hFc yo_12 rfl) rfl rfl hl.1 rfl (lv_room (Nat.le_of_ble_eq_true rfl)) d_Model_values_408 ⟨Nat.le_of_ble_eq_true rfl, Nat.le_of_ble_eq_true rfl⟩) hS (fun q _ h => hFc q h) hFc (fun r9 u9 t9 H locs ht hvm e9 hB hz1 hk1 hS => ?_)
    have e9 : r_171 = r9 := e9
    subst e9
    obtain ⟨hP, hD⟩ := y_aft hB ht hFc
    clear hFc hk1 hz1 hvm hB ht
    obtain ⟨e1i, e1j, e1a, e1b, e3⟩ := re4m hm
    obtain ⟨hP, hD⟩ := y_eq e1i e1j e1a e1b hP hD
    exact W.lret hx hb hr (fun t9 ht hW => ⟨⟨_, (), rfl, e3.symm, by rw [ht]; exact hP, hD⟩, hS.F ht⟩) hS.2.2 d_Model_values_411
  replace hm := if_f c_153 hm
  rcases Classical.em (v1 = 46) with c_172 | c_172
  · replace hm := if_t c_172 hm
    refine lv_tableIn (x := v1) (tgt := 247) hx hb d_Model_values_7 (by rw [c_172]; decide) (by rw [c_172]; decide) (by rw [c_172]; rfl) (by decide) ?_
    refine lv_aload_n hx hb d_Model_values_247 rfl (lv_at hl 1 rfl) ?_
    refine lv_aload_n hx hb d_Model_values_248 rfl (lv_at hl 1 rfl) ?_
    refine lv_lload hx hb d_Model_values_249 (lv_at hl 4 rfl) ?_
    refine lv_lload_n hx hb d_Model_values_251 rfl (lv_at hl 3 rfl) ?_
    obtain ⟨i_174, j_175, a_176, b_177, r_178, h_173, hm⟩ := om_some hm
    have hFc := x_free hD hS hA
    refine va_calli (va_runV (As := [.long v4, .long v2]) (rest := [.ref h]) ⟨hx, hb, hml, hown, hts⟩ (x_Model_holds l dC dI cI cJ cB adK adV adA h v s.heap.size n h_173) (cwV 2 hts (tw_GV tw_cons cw_Model_holds lk_Model_741 in_Model_holds sel_Model_holds ini_Model) rfl rfl rfl ⟨rfl, hd_Model_holds⟩ ⟨Nat.le_of_ble_eq_true rfl, Nat.le_of_ble_eq_true rfl⟩) (ypV hK hP hD hS hE hFc yo_12 rfl) rfl rfl hl.1 rfl (lv_room (Nat.le_of_ble_eq_true rfl)) d_Model_values_252 ⟨Nat.le_of_ble_eq_true rfl, Nat.le_of_ble_eq_true rfl⟩) hS (fun q _ h => hFc q h) hFc (fun r9 u9 t9 H locs ht hvm e9 hB hz1 hk1 hS => ?_)
    have e9 : r_178 = r9 := e9
    subst e9
    obtain ⟨hP, hD⟩ := y_aft hB ht hFc
    clear hFc hk1 hz1 hvm hB ht
    obtain ⟨r_180, h_179, hm⟩ := ob0_some hm
    have hFc := x_free0 hS hA
    refine va_calll (va_runV (As := [.int r_178]) (rest := []) ⟨hx, hb, hml, hown, hts⟩ (x_Model_truth l dC dI cI cJ cB adK adV adA h v H.size n h_179) (cwV 1 hts (tw_GV tw_cons cw_Model_truth lk_Model_721 in_Model_truth sel_Model_truth ini_Model) rfl rfl rfl ⟨rfl, hd_Model_truth⟩ ⟨Nat.le_of_ble_eq_true rfl, Nat.le_of_ble_eq_true rfl⟩) (ypVr hK hP hS hE hFc yo_12 rfl) rfl rfl hl.1 rfl (lv_room (Nat.le_of_ble_eq_true rfl)) d_Model_values_255 ⟨Nat.le_of_ble_eq_true rfl, Nat.le_of_ble_eq_true rfl⟩) hS (fun q _ h => hFc q h) hFc (fun r9 u9 t9 H locs ht hvm e9 hB hz1 hk1 hS => ?_)
    have e9 : r_180 = r9 := e9
    subst e9
    replace hP := x_keep hP hk1
    clear hFc hk1 hz1 hvm hB ht
    obtain ⟨e1i, e1j, e1a, e1b, e3⟩ := re4m hm
    obtain ⟨hP, hD⟩ := y_eq e1i e1j e1a e1b hP hD
    exact W.lret hx hb hr (fun t9 ht hW => ⟨⟨_, (), rfl, e3.symm, by rw [ht]; exact hP, hD⟩, hS.F ht⟩) hS.2.2 d_Model_values_258
  replace hm := if_f c_172 hm
  rcases Classical.em (v1 = 47) with c_181 | c_181
  · replace hm := if_t c_181 hm
    refine lv_tableIn (x := v1) (tgt := 412) hx hb d_Model_values_7 (by rw [c_181]; decide) (by rw [c_181]; decide) (by rw [c_181]; rfl) (by decide) ?_
    refine lv_aload_n hx hb d_Model_values_412 rfl (lv_at hl 1 rfl) ?_
    refine lv_lload_n hx hb d_Model_values_413 rfl (lv_at hl 3 rfl) ?_
    obtain ⟨r_183, h_182, hm⟩ := ob0_some hm
    have hFc := x_free0 hS hA
    refine va_calli (va_runV (As := [.long v2]) (rest := []) ⟨hx, hb, hml, hown, hts⟩ (x_Model_size l dC dI cI cJ cB adK adV adA h v s.heap.size n h_182) (cwV 1 hts (tw_GV tw_cons cw_Model_size lk_Model_98 in_Model_size sel_Model_size ini_Model) rfl rfl rfl ⟨rfl, hd_Model_size⟩ ⟨Nat.le_of_ble_eq_true rfl, Nat.le_of_ble_eq_true rfl⟩) (ypVr hK hP hS hE hFc yo_12 rfl) rfl rfl hl.1 rfl (lv_room (Nat.le_of_ble_eq_true rfl)) d_Model_values_414 ⟨Nat.le_of_ble_eq_true rfl, Nat.le_of_ble_eq_true rfl⟩) hS (fun q _ h => hFc q h) hFc (fun r9 u9 t9 H locs ht hvm e9 hB hz1 hk1 hS => ?_)
    have e9 : r_183 = r9 := e9
    subst e9
    replace hP := x_keep hP hk1
    clear hFc hk1 hz1 hvm hB ht
    refine lv_iconst (v := 1) hx hb d_Model_values_417 (by decide) ?_
    refine lv_isub hx hb d_Model_values_418 ?_
    refine lv_topi (fun x_184 ex_184 => ?_)
    replace hm := ob1_at ex_184 hm
    refine lv_istore (lv' := [(7, .int x_184), (6, .int x_1), (0, .ref h), (1, .int v1), (2, .long v2), (4, .long v4)]) hx hb d_Model_values_419 hl (by decide) rfl (fun ls hl => ?_)
    exact lb_Model_values_421 l dC dI cI cJ cB adK adV adA h v n hx hb hml hown hts hK hE hA hr hlocks n _ _ _ _ _ _ _ hm _ _ _ hP hD hS (lv_sub hl [2, 4, 1, 0] rfl)
  replace hm := if_f c_181 hm
  rcases Classical.em (v1 = 48) with c_185 | c_185
  · replace hm := if_t c_185 hm
    refine lv_tableIn (x := v1) (tgt := 259) hx hb d_Model_values_7 (by rw [c_185]; decide) (by rw [c_185]; decide) (by rw [c_185]; rfl) (by decide) ?_
    refine lv_aload_n hx hb d_Model_values_259 rfl (lv_at hl 1 rfl) ?_
    refine lv_lload_n hx hb d_Model_values_260 rfl (lv_at hl 3 rfl) ?_
    refine lv_lload hx hb d_Model_values_261 (lv_at hl 4 rfl) ?_
    obtain ⟨i_187, j_188, a_189, b_190, r_191, h_186, hm⟩ := om_some hm
    have hFc := x_free hD hS hA
    refine va_calll (va_runV (As := [.long v2, .long v4]) (rest := []) ⟨hx, hb, hml, hown, hts⟩ (x_Model_joined l dC dI cI cJ cB adK adV adA h v s.heap.size n h_186) (cwV 2 hts (tw_GV tw_cons cw_Model_joined lk_Model_744 in_Model_joined sel_Model_joined ini_Model) rfl rfl rfl ⟨rfl, hd_Model_joined⟩ ⟨Nat.le_of_ble_eq_true rfl, Nat.le_of_ble_eq_true rfl⟩) (ypV hK hP hD hS hE hFc yo_12 rfl) rfl rfl hl.1 rfl (lv_room (Nat.le_of_ble_eq_true rfl)) d_Model_values_263 ⟨Nat.le_of_ble_eq_true rfl, Nat.le_of_ble_eq_true rfl⟩) hS (fun q _ h => hFc q h) hFc (fun r9 u9 t9 H locs ht hvm e9 hB hz1 hk1 hS => ?_)
    have e9 : r_191 = r9 := e9
    subst e9
    obtain ⟨hP, hD⟩ := y_aft hB ht hFc
    clear hFc hk1 hz1 hvm hB ht
    obtain ⟨e1i, e1j, e1a, e1b, e3⟩ := re4m hm
    obtain ⟨hP, hD⟩ := y_eq e1i e1j e1a e1b hP hD
    exact W.lret hx hb hr (fun t9 ht hW => ⟨⟨_, (), rfl, e3.symm, by rw [ht]; exact hP, hD⟩, hS.F ht⟩) hS.2.2 d_Model_values_266
  replace hm := if_f c_185 hm
  refine lv_tableOut (x := v1) (tgt := 412) hx hb d_Model_values_7 (by have q0 := lv_neT c_2 (show (32 : Int32).toInt = 32 from by decide); have q1 := lv_neT c_7 (show (33 : Int32).toInt = 33 from by decide); have q2 := lv_neT c_12 (show (34 : Int32).toInt = 34 from by decide); have q3 := lv_neT c_17 (show (35 : Int32).toInt = 35 from by decide); have q4 := lv_neT c_27 (show (36 : Int32).toInt = 36 from by decide); have q5 := lv_neT c_35 (show (37 : Int32).toInt = 37 from by decide); have q6 := lv_neT c_47 (show (38 : Int32).toInt = 38 from by decide); have q7 := lv_neT c_61 (show (39 : Int32).toInt = 39 from by decide); have q8 := lv_neT c_72 (show (40 : Int32).toInt = 40 from by decide); have q9 := lv_neT c_83 (show (41 : Int32).toInt = 41 from by decide); have q10 := lv_neT c_96 (show (42 : Int32).toInt = 42 from by decide); have q11 := lv_neT c_115 (show (43 : Int32).toInt = 43 from by decide); have q12 := lv_neT c_134 (show (44 : Int32).toInt = 44 from by decide); have q13 := lv_neT c_153 (show (45 : Int32).toInt = 45 from by decide); have q14 := lv_neT c_172 (show (46 : Int32).toInt = 46 from by decide); have q15 := lv_neT c_181 (show (47 : Int32).toInt = 47 from by decide); have q16 := lv_neT c_185 (show (48 : Int32).toInt = 48 from by decide); omega) (by decide) ?_
  refine lv_aload_n hx hb d_Model_values_412 rfl (lv_at hl 1 rfl) ?_
  refine lv_lload_n hx hb d_Model_values_413 rfl (lv_at hl 3 rfl) ?_
  obtain ⟨r_193, h_192, hm⟩ := ob0_some hm
  have hFc := x_free0 hS hA
  refine va_calli (va_runV (As := [.long v2]) (rest := []) ⟨hx, hb, hml, hown, hts⟩ (x_Model_size l dC dI cI cJ cB adK adV adA h v s.heap.size n h_192) (cwV 1 hts (tw_GV tw_cons cw_Model_size lk_Model_98 in_Model_size sel_Model_size ini_Model) rfl rfl rfl ⟨rfl, hd_Model_size⟩ ⟨Nat.le_of_ble_eq_true rfl, Nat.le_of_ble_eq_true rfl⟩) (ypVr hK hP hS hE hFc yo_12 rfl) rfl rfl hl.1 rfl (lv_room (Nat.le_of_ble_eq_true rfl)) d_Model_values_414 ⟨Nat.le_of_ble_eq_true rfl, Nat.le_of_ble_eq_true rfl⟩) hS (fun q _ h => hFc q h) hFc (fun r9 u9 t9 H locs ht hvm e9 hB hz1 hk1 hS => ?_)
  have e9 : r_193 = r9 := e9
  subst e9
  replace hP := x_keep hP hk1
  clear hFc hk1 hz1 hvm hB ht
  refine lv_iconst (v := 1) hx hb d_Model_values_417 (by decide) ?_
  refine lv_isub hx hb d_Model_values_418 ?_
  refine lv_topi (fun x_194 ex_194 => ?_)
  replace hm := ob1_at ex_194 hm
  refine lv_istore (lv' := [(7, .int x_194), (6, .int x_1), (0, .ref h), (1, .int v1), (2, .long v2), (4, .long v4)]) hx hb d_Model_values_419 hl (by decide) rfl (fun ls hl => ?_)
  exact lb_Model_values_421 l dC dI cI cJ cB adK adV adA h v n hx hb hml hown hts hK hE hA hr hlocks n _ _ _ _ _ _ _ hm _ _ _ hP hD hS (lv_sub hl [2, 4, 1, 0] rfl)

def m_Model_named (n : Nat) (i : Nat → Int32) (j : Nat → Int64) (a : Nat → Nat → Int32) (b : Nat → Nat → Int64) (v1 : Int32) (v2 : Int64) (v4 : Int64) : Option ((Nat → Int32) × (Nat → Int64) × (Nat → Nat → Int32) × (Nat → Nat → Int64) × Int64) := ob0 (m_Model_what n v2) (fun r_2 => if v1 = 49 then om (m_Model_make n i j a b v2 v4) (fun i_5 j_6 a_7 b_8 r_9 => some (i_5, j_6, a_7, b_8, r_9)) else if v1 = 50 then om (m_Model_local n i j a b v2) (fun i_12 j_13 a_14 b_15 r_16 => some (i_12, j_13, a_14, b_15, r_16)) else if v1 = 51 then ck r_2 120000 (ck r_2 120000 (om (m_Model_valueOf n i j a b (a 3 r_2.toNatClampNeg) (a 4 r_2.toNatClampNeg)) (fun i_21 j_22 a_23 b_24 r_25 => some (i_21, j_22, a_23, b_24, r_25)))) else if v1 = 52 then ck r_2 120000 (ck r_2 120000 (ob0 (m_Model_found n i j a b (a 3 r_2.toNatClampNeg) (a 4 r_2.toNatClampNeg)) (fun r_30 => if r_30 = ((-1 : Int32)) then ob0 (m_Model_truth n i j a b (0 : Int32)) (fun r_33 => some (i, j, a, b, r_33)) else if ((10000 : Int32)) ≤ r_30 then ob0 (m_Model_truth n i j a b (1 : Int32)) (fun r_36 => some (i, j, a, b, r_36)) else ck r_30 1800 (if ((lg_cmp (b 115 r_30.toNatClampNeg) 3)) = ((0 : Int32)) then ob0 (m_Model_truth n i j a b (0 : Int32)) (fun r_40 => some (i, j, a, b, r_40)) else ob0 (m_Model_truth n i j a b (1 : Int32)) (fun r_42 => some (i, j, a, b, r_42)))))) else if v1 = 53 then om (m_Model_defined n i j a b r_2 v4) (fun i_45 j_46 a_47 b_48 r_49 => some (i_45, j_46, a_47, b_48, r_49)) else if v1 = 54 then ob0 (m_Model_procedureOf n i j a b r_2) (fun r_52 => if r_52 = ((-1 : Int32)) then ob0 (m_Model_number n (-1 : Int32)) (fun r_58 => some (i, j, a, b, r_58)) else ck r_52 40 (ob0 (m_Model_number n (a 30 r_52.toNatClampNeg)) (fun r_56 => some (i, j, a, b, r_56)))) else ob0 (m_Model_procedureOf n i j a b r_2) (fun r_60 => if r_60 = ((-1 : Int32)) then om (m_Model_fails n i j a b (1 : Int32)) (fun i_64 j_65 a_66 b_67 r_68 => some (i_64, j_65, a_66, b_67, r_68)) else ck r_60 40 (some (i, j, a, b, b 32 r_60.toNatClampNeg))))
set_option maxHeartbeats 4000000 in
set_option maxRecDepth 100000 in
theorem x_Model_named (l : Launch) (dC : Nat → ClassId) (dI : Nat → Nat → Nat) (cI cJ cB : ClassId) (adK adV adA : Nat → Nat) (h : Nat) (v : Nat → Nat) (sz : Nat) (n : Nat) {i : Nat → Int32} {j : Nat → Int64} {a : Nat → Nat → Int32} {b : Nat → Nat → Int64} {v1 : Int32} {v2 : Int64} {v4 : Int64} {i2 : Nat → Int32} {j2 : Nat → Int64} {a2 : Nat → Nat → Int32} {b2 : Nat → Nat → Int64} {r2 : Int64} (hm : m_Model_named n i j a b v1 v2 v4 = some (i2, j2, a2, b2, r2)) : Met l y_Model_named w_Model_named ({ frames := 7, cells := 0, slots := 0, locals := 162 } : Room) (va_Pc [.ref h, .int v1, .long v2, .long v4] (yE dC dI cI cJ cB adK adV adA h v i j a b sz)) (va_Ql (xR r2) (yB dC dI cI cJ cB h v i2 j2 a2 b2 (va_A (MW cI cJ cB h v i j a b) sz)) (va_A (MW cI cJ cB h v i j a b) sz)) 0 0 ((va_A (MW cI cJ cB h v i j a b) sz)) := by
  refine Met.ofW (cc := b_Model_named) (maxL := 8) (ret := (some .long)) (by decide) rfl ?_
  intro p e s m args below meth c s₁ B hml hv
  obtain ⟨rfl, hsz, hP, hK, hE, hD0⟩ := hv
  have hx := B.exec
  have hb := B.bytes
  have hr := B.returns
  have hts := atoms_spec (ws := w_Model_named) B.pre
  have htt : ∀ w ∈ tw_T, w.before _ s = true := fun w h => hts w (List.mem_cons_of_mem _ h)
  have hown : s.vm.findClass R_Model = some m.cls := findClass_of_methodNamed B.named
  have hlocks := B.notSynchronized
  subst hsz
  have hD := hD0.self (sz := s.heap.size)
  generalize hAe : (va_A (MW cI cJ cB h v i j a b) s.heap.size) = A at hD hE ⊢
  have hA : ∀ q : Nat, s.heap.size ≤ q → A q := fun q h => by rw [← hAe]; exact Or.inr h
  have hS : va_S A s.heap s.heap [] := va_S.rf
  have hl := lv_entry ([.ref h, .int v1, .long v2, .long v4]) (n := 8) (Nat.le_of_ble_eq_true rfl)
  rw [lg_entry_eq]
  generalize (lg_sl ([.ref h, .int v1, .long v2, .long v4]) ++ List.replicate (8 - (lg_sl ([.ref h, .int v1, .long v2, .long v4])).length) Slot.unset).toArray = ls at hl ⊢
  have hl : lv_has ls 8 [(0, .ref h), (1, .int v1), (2, .long v2), (4, .long v4)] := hl
  rw [m_Model_named] at hm
  refine lv_lload_n hx hb d_Model_named_0 rfl (lv_at hl 2 rfl) ?_
  obtain ⟨r_2, h_1, hm⟩ := ob0_some hm
  have hFc := x_free0 hS hA
  refine va_calli (va_runS (As := [.long v2]) (rest := []) ⟨hx, hb, hml, hown, hts⟩ (x_Model_what l s.heap.size n h_1) (va_cwS 1 hts (tw_GS tw_cons cw_Model_what lk_Model_64 st_Model_what ini_Model) rfl rfl rfl hd_Model_what ⟨Nat.le_of_ble_eq_true rfl, Nat.le_of_ble_eq_true rfl⟩) xpS0 rfl rfl hl.1 rfl (lv_room (Nat.le_of_ble_eq_true rfl)) d_Model_named_1 ⟨Nat.le_of_ble_eq_true rfl, Nat.le_of_ble_eq_true rfl⟩) hS (fun q _ h => hFc q h) hFc (fun r9 u9 t9 H locs ht hvm e9 hB hz1 hk1 hS => ?_)
  have e9 : r_2 = r9 := e9
  subst e9
  replace hP := x_keep hP hk1
  clear hFc hk1 hz1 hvm hB ht
  refine lv_istore (lv' := [(6, .int r_2), (0, .ref h), (1, .int v1), (2, .long v2), (4, .long v4)]) hx hb d_Model_named_4 hl (by decide) rfl (fun ls hl => ?_)
  refine lv_iload_n hx hb d_Model_named_6 rfl (lv_at hl 2 rfl) ?_
  rcases Classical.em (v1 = 49) with c_3 | c_3
  · replace hm := if_t c_3 hm
    refine lv_tableIn (x := v1) (tgt := 44) hx hb d_Model_named_7 (by rw [c_3]; decide) (by rw [c_3]; decide) (by rw [c_3]; rfl) (by decide) ?_
    refine lv_aload_n hx hb d_Model_named_44 rfl (lv_at hl 1 rfl) ?_
    refine lv_lload_n hx hb d_Model_named_45 rfl (lv_at hl 3 rfl) ?_
    refine lv_lload hx hb d_Model_named_46 (lv_at hl 4 rfl) ?_
    obtain ⟨i_5, j_6, a_7, b_8, r_9, h_4, hm⟩ := om_some hm
    have hFc := x_free hD hS hA
    refine va_calll (va_runV (As := [.long v2, .long v4]) (rest := []) ⟨hx, hb, hml, hown, hts⟩ (x_Model_make l dC dI cI cJ cB adK adV adA h v H.size n h_4) (cwV 2 hts (tw_GV tw_cons cw_Model_make lk_Model_753 in_Model_make sel_Model_make ini_Model) rfl rfl rfl ⟨rfl, hd_Model_make⟩ ⟨Nat.le_of_ble_eq_true rfl, Nat.le_of_ble_eq_true rfl⟩) (ypV hK hP hD hS hE hFc yo_12 rfl) rfl rfl hl.1 rfl (lv_room (Nat.le_of_ble_eq_true rfl)) d_Model_named_48 ⟨Nat.le_of_ble_eq_true rfl, Nat.le_of_ble_eq_true rfl⟩) hS (fun q _ h => hFc q h) hFc (fun r9 u9 t9 H locs ht hvm e9 hB hz1 hk1 hS => ?_)
    have e9 : r_9 = r9 := e9
    subst e9
    obtain ⟨hP, hD⟩ := y_aft hB ht hFc
    clear hFc hk1 hz1 hvm hB ht
    obtain ⟨e1i, e1j, e1a, e1b, e3⟩ := re4m hm
    obtain ⟨hP, hD⟩ := y_eq e1i e1j e1a e1b hP hD
    exact W.lret hx hb hr (fun t9 ht hW => ⟨⟨_, (), rfl, e3.symm, by rw [ht]; exact hP, hD⟩, hS.F ht⟩) hS.2.2 d_Model_named_51
  replace hm := if_f c_3 hm
  rcases Classical.em (v1 = 50) with c_10 | c_10
  · replace hm := if_t c_10 hm
    refine lv_tableIn (x := v1) (tgt := 52) hx hb d_Model_named_7 (by rw [c_10]; decide) (by rw [c_10]; decide) (by rw [c_10]; rfl) (by decide) ?_
    refine lv_aload_n hx hb d_Model_named_52 rfl (lv_at hl 1 rfl) ?_
    refine lv_lload_n hx hb d_Model_named_53 rfl (lv_at hl 3 rfl) ?_
    obtain ⟨i_12, j_13, a_14, b_15, r_16, h_11, hm⟩ := om_some hm
    have hFc := x_free hD hS hA
    refine va_calll (va_runV (As := [.long v2]) (rest := []) ⟨hx, hb, hml, hown, hts⟩ (x_Model_local l dC dI cI cJ cB adK adV adA h v H.size n h_11) (cwV 1 hts (tw_GV tw_cons cw_Model_local lk_Model_756 in_Model_local sel_Model_local ini_Model) rfl rfl rfl ⟨rfl, hd_Model_local⟩ ⟨Nat.le_of_ble_eq_true rfl, Nat.le_of_ble_eq_true rfl⟩) (ypV hK hP hD hS hE hFc yo_12 rfl) rfl rfl hl.1 rfl (lv_room (Nat.le_of_ble_eq_true rfl)) d_Model_named_54 ⟨Nat.le_of_ble_eq_true rfl, Nat.le_of_ble_eq_true rfl⟩) hS (fun q _ h => hFc q h) hFc (fun r9 u9 t9 H locs ht hvm e9 hB hz1 hk1 hS => ?_)
    have e9 : r_16 = r9 := e9
    subst e9
    obtain ⟨hP, hD⟩ := y_aft hB ht hFc
    clear hFc hk1 hz1 hvm hB ht
    obtain ⟨e1i, e1j, e1a, e1b, e3⟩ := re4m hm
    obtain ⟨hP, hD⟩ := y_eq e1i e1j e1a e1b hP hD
    exact W.lret hx hb hr (fun t9 ht hW => ⟨⟨_, (), rfl, e3.symm, by rw [ht]; exact hP, hD⟩, hS.F ht⟩) hS.2.2 d_Model_named_57
  replace hm := if_f c_10 hm
  rcases Classical.em (v1 = 51) with c_17 | c_17
  · replace hm := if_t c_17 hm
    refine lv_tableIn (x := v1) (tgt := 58) hx hb d_Model_named_7 (by rw [c_17]; decide) (by rw [c_17]; decide) (by rw [c_17]; rfl) (by decide) ?_
    refine lv_aload_n hx hb d_Model_named_58 rfl (lv_at hl 1 rfl) ?_
    refine lv_aload_n hx hb d_Model_named_59 rfl (lv_at hl 1 rfl) ?_
    refine va_get (D := (dC, dI)) (ci := 12) (v := .ref ((v 3))) (C := R_Model) (T := F_Model) (N := 127) hx hb htt iw_Model hown hK hP 0 yo_12 rfl 3 (Nat.le_of_ble_eq_true rfl) (htt _ lk_Model_15) (fun _ h9 => h9) yg_3 d_Model_named_60 ?_
    refine lv_iload hx hb d_Model_named_63 (lv_at hl 0 rfl) ?_
    obtain ⟨h_18, hm⟩ := ck_some hm
    refine va_iald hx hb hK hP 3 0 ya_3 rfl h_18 d_Model_named_65 ?_
    refine lv_aload_n hx hb d_Model_named_66 rfl (lv_at hl 1 rfl) ?_
    refine va_get (D := (dC, dI)) (ci := 12) (v := .ref ((v 4))) (C := R_Model) (T := F_Model) (N := 127) hx hb htt iw_Model hown hK hP 0 yo_12 rfl 4 (Nat.le_of_ble_eq_true rfl) (htt _ lk_Model_22) (fun _ h9 => h9) yg_4 d_Model_named_67 ?_
    refine lv_iload hx hb d_Model_named_70 (lv_at hl 0 rfl) ?_
    obtain ⟨h_19, hm⟩ := ck_some hm
    refine va_iald hx hb hK hP 4 0 ya_4 rfl h_19 d_Model_named_72 ?_
    obtain ⟨i_21, j_22, a_23, b_24, r_25, h_20, hm⟩ := om_some hm
    have hFc := x_free hD hS hA
    refine va_calll (va_runV (As := [.int (a 3 r_2.toNatClampNeg), .int (a 4 r_2.toNatClampNeg)]) (rest := []) ⟨hx, hb, hml, hown, hts⟩ (x_Model_valueOf l dC dI cI cJ cB adK adV adA h v H.size n h_20) (cwV 2 hts (tw_GV tw_cons cw_Model_valueOf lk_Model_605 in_Model_valueOf sel_Model_valueOf ini_Model) rfl rfl rfl ⟨rfl, hd_Model_valueOf⟩ ⟨Nat.le_of_ble_eq_true rfl, Nat.le_of_ble_eq_true rfl⟩) (ypV hK hP hD hS hE hFc yo_12 rfl) rfl rfl hl.1 rfl (lv_room (Nat.le_of_ble_eq_true rfl)) d_Model_named_73 ⟨Nat.le_of_ble_eq_true rfl, Nat.le_of_ble_eq_true rfl⟩) hS (fun q _ h => hFc q h) hFc (fun r9 u9 t9 H locs ht hvm e9 hB hz1 hk1 hS => ?_)
    have e9 : r_25 = r9 := e9
    subst e9
    obtain ⟨hP, hD⟩ := y_aft hB ht hFc
    clear hFc hk1 hz1 hvm hB ht
    obtain ⟨e1i, e1j, e1a, e1b, e3⟩ := re4m hm
    obtain ⟨hP, hD⟩ := y_eq e1i e1j e1a e1b hP hD
    exact W.lret hx hb hr (fun t9 ht hW => ⟨⟨_, (), rfl, e3.symm, by rw [ht]; exact hP, hD⟩, hS.F ht⟩) hS.2.2 d_Model_named_76
  replace hm := if_f c_17 hm
  rcases Classical.em (v1 = 52) with c_26 | c_26
  · replace hm := if_t c_26 hm
    refine lv_tableIn (x := v1) (tgt := 77) hx hb d_Model_named_7 (by rw [c_26]; decide) (by rw [c_26]; decide) (by rw [c_26]; rfl) (by decide) ?_
    refine lv_aload_n hx hb d_Model_named_77 rfl (lv_at hl 1 rfl) ?_
    refine lv_aload_n hx hb d_Model_named_78 rfl (lv_at hl 1 rfl) ?_
    refine va_get (D := (dC, dI)) (ci := 12) (v := .ref ((v 3))) (C := R_Model) (T := F_Model) (N := 127) hx hb htt iw_Model hown hK hP 0 yo_12 rfl 3 (Nat.le_of_ble_eq_true rfl) (htt _ lk_Model_15) (fun _ h9 => h9) yg_3 d_Model_named_79 ?_
    refine lv_iload hx hb d_Model_named_82 (lv_at hl 0 rfl) ?_
    obtain ⟨h_27, hm⟩ := ck_some hm
    refine va_iald hx hb hK hP 3 0 ya_3 rfl h_27 d_Model_named_84 ?_
    refine lv_aload_n hx hb d_Model_named_85 rfl (lv_at hl 1 rfl) ?_
    refine va_get (D := (dC, dI)) (ci := 12) (v := .ref ((v 4))) (C := R_Model) (T := F_Model) (N := 127) hx hb htt iw_Model hown hK hP 0 yo_12 rfl 4 (Nat.le_of_ble_eq_true rfl) (htt _ lk_Model_22) (fun _ h9 => h9) yg_4 d_Model_named_86 ?_
    refine lv_iload hx hb d_Model_named_89 (lv_at hl 0 rfl) ?_
    obtain ⟨h_28, hm⟩ := ck_some hm
    refine va_iald hx hb hK hP 4 0 ya_4 rfl h_28 d_Model_named_91 ?_
    obtain ⟨r_30, h_29, hm⟩ := ob0_some hm
    have hFc := x_free0 hS hA
    refine va_calli (va_runV (As := [.int (a 3 r_2.toNatClampNeg), .int (a 4 r_2.toNatClampNeg)]) (rest := []) ⟨hx, hb, hml, hown, hts⟩ (x_Model_found l dC dI cI cJ cB adK adV adA h v H.size n h_29) (cwV 2 hts (tw_GV tw_cons cw_Model_found lk_Model_639 in_Model_found sel_Model_found ini_Model) rfl rfl rfl ⟨rfl, hd_Model_found⟩ ⟨Nat.le_of_ble_eq_true rfl, Nat.le_of_ble_eq_true rfl⟩) (ypVr hK hP hS hE hFc yo_12 rfl) rfl rfl hl.1 rfl (lv_room (Nat.le_of_ble_eq_true rfl)) d_Model_named_92 ⟨Nat.le_of_ble_eq_true rfl, Nat.le_of_ble_eq_true rfl⟩) hS (fun q _ h => hFc q h) hFc (fun r9 u9 t9 H locs ht hvm e9 hB hz1 hk1 hS => ?_)
    have e9 : r_30 = r9 := e9
    subst e9
    replace hP := x_keep hP hk1
    clear hFc hk1 hz1 hvm hB ht
    refine lv_istore (lv' := [(7, .int r_30), (6, .int r_2), (0, .ref h), (1, .int v1), (2, .long v2), (4, .long v4)]) hx hb d_Model_named_95 hl (by decide) rfl (fun ls hl => ?_)
    refine lv_aload_n hx hb d_Model_named_97 rfl (lv_at hl 2 rfl) ?_
    refine lv_iload hx hb d_Model_named_98 (lv_at hl 0 rfl) ?_
    refine lv_iconst (v := -1) hx hb d_Model_named_100 (by decide) ?_
    refine lv_icmp_eq (tgt := 130) hx hb d_Model_named_101 (by decide) (fun c_31 => ?_) (fun c_31 => ?_)
    · replace hm := if_t c_31 hm
      refine lv_iconst (v := 0) hx hb d_Model_named_130 (by decide) ?_
      obtain ⟨r_33, h_32, hm⟩ := ob0_some hm
      have hFc := x_free0 hS hA
      refine va_calll (va_runV (As := [.int 0]) (rest := []) ⟨hx, hb, hml, hown, hts⟩ (x_Model_truth l dC dI cI cJ cB adK adV adA h v H.size n h_32) (cwV 1 hts (tw_GV tw_cons cw_Model_truth lk_Model_721 in_Model_truth sel_Model_truth ini_Model) rfl rfl rfl ⟨rfl, hd_Model_truth⟩ ⟨Nat.le_of_ble_eq_true rfl, Nat.le_of_ble_eq_true rfl⟩) (ypVr hK hP hS hE hFc yo_12 rfl) rfl rfl hl.1 rfl (lv_room (Nat.le_of_ble_eq_true rfl)) d_Model_named_131 ⟨Nat.le_of_ble_eq_true rfl, Nat.le_of_ble_eq_true rfl⟩) hS (fun q _ h => hFc q h) hFc (fun r9 u9 t9 H locs ht hvm e9 hB hz1 hk1 hS => ?_)
      have e9 : r_33 = r9 := e9
      subst e9
      replace hP := x_keep hP hk1
      clear hFc hk1 hz1 hvm hB ht
      obtain ⟨e1i, e1j, e1a, e1b, e3⟩ := re4m hm
      obtain ⟨hP, hD⟩ := y_eq e1i e1j e1a e1b hP hD
      exact W.lret hx hb hr (fun t9 ht hW => ⟨⟨_, (), rfl, e3.symm, by rw [ht]; exact hP, hD⟩, hS.F ht⟩) hS.2.2 d_Model_named_134
    · replace hm := if_f c_31 hm
      refine lv_iload hx hb d_Model_named_104 (lv_at hl 0 rfl) ?_
      refine lv_sipush (v := 10000) hx hb d_Model_named_106 (by decide) ?_
      refine lv_icmp_ge (tgt := 126) hx hb d_Model_named_109 (by decide) (fun c_34 => ?_) (fun c_34 => ?_)
      · replace hm := if_t c_34 hm
        refine lv_iconst (v := 1) hx hb d_Model_named_126 (by decide) ?_
        refine lv_goto (tgt := 131) hx hb d_Model_named_127 (by decide) ?_
        obtain ⟨r_36, h_35, hm⟩ := ob0_some hm
        have hFc := x_free0 hS hA
        refine va_calll (va_runV (As := [.int 1]) (rest := []) ⟨hx, hb, hml, hown, hts⟩ (x_Model_truth l dC dI cI cJ cB adK adV adA h v H.size n h_35) (cwV 1 hts (tw_GV tw_cons cw_Model_truth lk_Model_721 in_Model_truth sel_Model_truth ini_Model) rfl rfl rfl ⟨rfl, hd_Model_truth⟩ ⟨Nat.le_of_ble_eq_true rfl, Nat.le_of_ble_eq_true rfl⟩) (ypVr hK hP hS hE hFc yo_12 rfl) rfl rfl hl.1 rfl (lv_room (Nat.le_of_ble_eq_true rfl)) d_Model_named_131 ⟨Nat.le_of_ble_eq_true rfl, Nat.le_of_ble_eq_true rfl⟩) hS (fun q _ h => hFc q h) hFc (fun r9 u9 t9 H locs ht hvm e9 hB hz1 hk1 hS => ?_)
        have e9 : r_36 = r9 := e9
        subst e9
        replace hP := x_keep hP hk1
        clear hFc hk1 hz1 hvm hB ht
        obtain ⟨e1i, e1j, e1a, e1b, e3⟩ := re4m hm
        obtain ⟨hP, hD⟩ := y_eq e1i e1j e1a e1b hP hD
        exact W.lret hx hb hr (fun t9 ht hW => ⟨⟨_, (), rfl, e3.symm, by rw [ht]; exact hP, hD⟩, hS.F ht⟩) hS.2.2 d_Model_named_134
      · replace hm := if_f c_34 hm
        refine lv_aload_n hx hb d_Model_named_112 rfl (lv_at hl 2 rfl) ?_
        refine va_get (D := (dC, dI)) (ci := 12) (v := .ref ((v 115))) (C := R_Model) (T := F_Model) (N := 127) hx hb htt iw_Model hown hK hP 0 yo_12 rfl 115 (Nat.le_of_ble_eq_true rfl) (htt _ lk_Model_313) (fun _ h9 => h9) yg_115 d_Model_named_113 ?_
        refine lv_iload hx hb d_Model_named_116 (lv_at hl 0 rfl) ?_
        obtain ⟨h_37, hm⟩ := ck_some hm
        refine va_lald hx hb hK hP 65 1 ya_115 rfl h_37 d_Model_named_118 ?_
        refine lv_ldc2 (v := 3) hx hb hown (htt _ lk_Model_7) d_Model_named_119 ?_
        refine W.lcmp hx hb d_Model_named_122 ?_
        refine lv_if_eq (tgt := 130) hx hb d_Model_named_123 (by decide) (fun c_38 => ?_) (fun c_38 => ?_)
        · replace hm := if_t c_38 hm
          refine lv_iconst (v := 0) hx hb d_Model_named_130 (by decide) ?_
          obtain ⟨r_40, h_39, hm⟩ := ob0_some hm
          have hFc := x_free0 hS hA
          refine va_calll (va_runV (As := [.int 0]) (rest := []) ⟨hx, hb, hml, hown, hts⟩ (x_Model_truth l dC dI cI cJ cB adK adV adA h v H.size n h_39) (cwV 1 hts (tw_GV tw_cons cw_Model_truth lk_Model_721 in_Model_truth sel_Model_truth ini_Model) rfl rfl rfl ⟨rfl, hd_Model_truth⟩ ⟨Nat.le_of_ble_eq_true rfl, Nat.le_of_ble_eq_true rfl⟩) (ypVr hK hP hS hE hFc yo_12 rfl) rfl rfl hl.1 rfl (lv_room (Nat.le_of_ble_eq_true rfl)) d_Model_named_131 ⟨Nat.le_of_ble_eq_true rfl, Nat.le_of_ble_eq_true rfl⟩) hS (fun q _ h => hFc q h) hFc (fun r9 u9 t9 H locs ht hvm e9 hB hz1 hk1 hS => ?_)
          have e9 : r_40 = r9 := e9
          subst e9
          replace hP := x_keep hP hk1
          clear hFc hk1 hz1 hvm hB ht
          obtain ⟨e1i, e1j, e1a, e1b, e3⟩ := re4m hm
          obtain ⟨hP, hD⟩ := y_eq e1i e1j e1a e1b hP hD
          exact W.lret hx hb hr (fun t9 ht hW => ⟨⟨_, (), rfl, e3.symm, by rw [ht]; exact hP, hD⟩, hS.F ht⟩) hS.2.2 d_Model_named_134
        · replace hm := if_f c_38 hm
          refine lv_iconst (v := 1) hx hb d_Model_named_126 (by decide) ?_
          refine lv_goto (tgt := 131) hx hb d_Model_named_127 (by decide) ?_
          obtain ⟨r_42, h_41, hm⟩ := ob0_some hm
          have hFc := x_free0 hS hA
          refine va_calll (va_runV (As := [.int 1]) (rest := []) ⟨hx, hb, hml, hown, hts⟩ (x_Model_truth l dC dI cI cJ cB adK adV adA h v H.size n h_41) (cwV 1 hts (tw_GV tw_cons cw_Model_truth lk_Model_721 in_Model_truth sel_Model_truth ini_Model) rfl rfl rfl ⟨rfl, hd_Model_truth⟩ ⟨Nat.le_of_ble_eq_true rfl, Nat.le_of_ble_eq_true rfl⟩) (ypVr hK hP hS hE hFc yo_12 rfl) rfl rfl hl.1 rfl (lv_room (Nat.le_of_ble_eq_true rfl)) d_Model_named_131 ⟨Nat.le_of_ble_eq_true rfl, Nat.le_of_ble_eq_true rfl⟩) hS (fun q _ h => hFc q h) hFc (fun r9 u9 t9 H locs ht hvm e9 hB hz1 hk1 hS => ?_)
          have e9 : r_42 = r9 := e9
          subst e9
          replace hP := x_keep hP hk1
          clear hFc hk1 hz1 hvm hB ht
          obtain ⟨e1i, e1j, e1a, e1b, e3⟩ := re4m hm
          obtain ⟨hP, hD⟩ := y_eq e1i e1j e1a e1b hP hD
          exact W.lret hx hb hr (fun t9 ht hW => ⟨⟨_, (), rfl, e3.symm, by rw [ht]; exact hP, hD⟩, hS.F ht⟩) hS.2.2 d_Model_named_134
  replace hm := if_f c_26 hm
  rcases Classical.em (v1 = 53) with c_43 | c_43
  · replace hm := if_t c_43 hm
    refine lv_tableIn (x := v1) (tgt := 135) hx hb d_Model_named_7 (by rw [c_43]; decide) (by rw [c_43]; decide) (by rw [c_43]; rfl) (by decide) ?_
    refine lv_aload_n hx hb d_Model_named_135 rfl (lv_at hl 1 rfl) ?_
    refine lv_iload hx hb d_Model_named_136 (lv_at hl 0 rfl) ?_
    refine lv_lload hx hb d_Model_named_138 (lv_at hl 4 rfl) ?_
    obtain ⟨i_45, j_46, a_47, b_48, r_49, h_44, hm⟩ := om_some hm
    have hFc := x_free hD hS hA
    refine va_calll (va_runV (As := [.int r_2, .long v4]) (rest := []) ⟨hx, hb, hml, hown, hts⟩ (x_Model_defined l dC dI cI cJ cB adK adV adA h v H.size n h_44) (cwV 2 hts (tw_GV tw_cons cw_Model_defined lk_Model_759 in_Model_defined sel_Model_defined ini_Model) rfl rfl rfl ⟨rfl, hd_Model_defined⟩ ⟨Nat.le_of_ble_eq_true rfl, Nat.le_of_ble_eq_true rfl⟩) (ypV hK hP hD hS hE hFc yo_12 rfl) rfl rfl hl.1 rfl (lv_room (Nat.le_of_ble_eq_true rfl)) d_Model_named_140 ⟨Nat.le_of_ble_eq_true rfl, Nat.le_of_ble_eq_true rfl⟩) hS (fun q _ h => hFc q h) hFc (fun r9 u9 t9 H locs ht hvm e9 hB hz1 hk1 hS => ?_)
    have e9 : r_49 = r9 := e9
    subst e9
    obtain ⟨hP, hD⟩ := y_aft hB ht hFc
    clear hFc hk1 hz1 hvm hB ht
    obtain ⟨e1i, e1j, e1a, e1b, e3⟩ := re4m hm
    obtain ⟨hP, hD⟩ := y_eq e1i e1j e1a e1b hP hD
    exact W.lret hx hb hr (fun t9 ht hW => ⟨⟨_, (), rfl, e3.symm, by rw [ht]; exact hP, hD⟩, hS.F ht⟩) hS.2.2 d_Model_named_143
  replace hm := if_f c_43 hm
  rcases Classical.em (v1 = 54) with c_50 | c_50
  · replace hm := if_t c_50 hm
    refine lv_tableIn (x := v1) (tgt := 144) hx hb d_Model_named_7 (by rw [c_50]; decide) (by rw [c_50]; decide) (by rw [c_50]; rfl) (by decide) ?_
    refine lv_aload_n hx hb d_Model_named_144 rfl (lv_at hl 1 rfl) ?_
    refine lv_iload hx hb d_Model_named_145 (lv_at hl 0 rfl) ?_
    obtain ⟨r_52, h_51, hm⟩ := ob0_some hm
    have hFc := x_free0 hS hA
    refine va_calli (va_runV (As := [.int r_2]) (rest := []) ⟨hx, hb, hml, hown, hts⟩ (x_Model_procedureOf l dC dI cI cJ cB adK adV adA h v H.size n h_51) (cwV 1 hts (tw_GV tw_cons cw_Model_procedureOf lk_Model_488 in_Model_procedureOf sel_Model_procedureOf ini_Model) rfl rfl rfl ⟨rfl, hd_Model_procedureOf⟩ ⟨Nat.le_of_ble_eq_true rfl, Nat.le_of_ble_eq_true rfl⟩) (ypVr hK hP hS hE hFc yo_12 rfl) rfl rfl hl.1 rfl (lv_room (Nat.le_of_ble_eq_true rfl)) d_Model_named_147 ⟨Nat.le_of_ble_eq_true rfl, Nat.le_of_ble_eq_true rfl⟩) hS (fun q _ h => hFc q h) hFc (fun r9 u9 t9 H locs ht hvm e9 hB hz1 hk1 hS => ?_)
    have e9 : r_52 = r9 := e9
    subst e9
    replace hP := x_keep hP hk1
    clear hFc hk1 hz1 hvm hB ht
    refine lv_istore (lv' := [(7, .int r_52), (6, .int r_2), (0, .ref h), (1, .int v1), (2, .long v2), (4, .long v4)]) hx hb d_Model_named_150 hl (by decide) rfl (fun ls hl => ?_)
    refine lv_iload hx hb d_Model_named_152 (lv_at hl 0 rfl) ?_
    refine lv_iconst (v := -1) hx hb d_Model_named_154 (by decide) ?_
    refine lv_icmp_ne (tgt := 162) hx hb d_Model_named_155 (by decide) (fun c_53 => ?_) (fun c_53 => ?_)
    · replace hm := if_f c_53 hm
      refine lv_aload_n hx hb d_Model_named_162 rfl (lv_at hl 2 rfl) ?_
      refine va_get (D := (dC, dI)) (ci := 12) (v := .ref ((v 30))) (C := R_Model) (T := F_Model) (N := 127) hx hb htt iw_Model hown hK hP 0 yo_12 rfl 30 (Nat.le_of_ble_eq_true rfl) (htt _ lk_Model_186) (fun _ h9 => h9) yg_30 d_Model_named_163 ?_
      refine lv_iload hx hb d_Model_named_166 (lv_at hl 0 rfl) ?_
      obtain ⟨h_54, hm⟩ := ck_some hm
      refine va_iald hx hb hK hP 24 0 ya_30 rfl h_54 d_Model_named_168 ?_
      obtain ⟨r_56, h_55, hm⟩ := ob0_some hm
      have hFc := x_free0 hS hA
      refine va_calll (va_runS (As := [.int (a 30 r_52.toNatClampNeg)]) (rest := []) ⟨hx, hb, hml, hown, hts⟩ (x_Model_number l H.size n h_55) (va_cwS 1 hts (tw_GS tw_cons cw_Model_number lk_Model_451 st_Model_number ini_Model) rfl rfl rfl hd_Model_number ⟨Nat.le_of_ble_eq_true rfl, Nat.le_of_ble_eq_true rfl⟩) xpS0 rfl rfl hl.1 rfl (lv_room (Nat.le_of_ble_eq_true rfl)) d_Model_named_169 ⟨Nat.le_of_ble_eq_true rfl, Nat.le_of_ble_eq_true rfl⟩) hS (fun q _ h => hFc q h) hFc (fun r9 u9 t9 H locs ht hvm e9 hB hz1 hk1 hS => ?_)
      have e9 : r_56 = r9 := e9
      subst e9
      replace hP := x_keep hP hk1
      clear hFc hk1 hz1 hvm hB ht
      obtain ⟨e1i, e1j, e1a, e1b, e3⟩ := re4m hm
      obtain ⟨hP, hD⟩ := y_eq e1i e1j e1a e1b hP hD
      exact W.lret hx hb hr (fun t9 ht hW => ⟨⟨_, (), rfl, e3.symm, by rw [ht]; exact hP, hD⟩, hS.F ht⟩) hS.2.2 d_Model_named_172
    · replace hm := if_t c_53 hm
      refine lv_iconst (v := -1) hx hb d_Model_named_158 (by decide) ?_
      refine lv_goto (tgt := 169) hx hb d_Model_named_159 (by decide) ?_
      obtain ⟨r_58, h_57, hm⟩ := ob0_some hm
      have hFc := x_free0 hS hA
      refine va_calll (va_runS (As := [.int ((-1))]) (rest := []) ⟨hx, hb, hml, hown, hts⟩ (x_Model_number l H.size n h_57) (va_cwS 1 hts (tw_GS tw_cons cw_Model_number lk_Model_451 st_Model_number ini_Model) rfl rfl rfl hd_Model_number ⟨Nat.le_of_ble_eq_true rfl, Nat.le_of_ble_eq_true rfl⟩) xpS0 rfl rfl hl.1 rfl (lv_room (Nat.le_of_ble_eq_true rfl)) d_Model_named_169 ⟨Nat.le_of_ble_eq_true rfl, Nat.le_of_ble_eq_true rfl⟩) hS (fun q _ h => hFc q h) hFc (fun r9 u9 t9 H locs ht hvm e9 hB hz1 hk1 hS => ?_)
      have e9 : r_58 = r9 := e9
      subst e9
      replace hP := x_keep hP hk1
      clear hFc hk1 hz1 hvm hB ht
      obtain ⟨e1i, e1j, e1a, e1b, e3⟩ := re4m hm
      obtain ⟨hP, hD⟩ := y_eq e1i e1j e1a e1b hP hD
      exact W.lret hx hb hr (fun t9 ht hW => ⟨⟨_, (), rfl, e3.symm, by rw [ht]; exact hP, hD⟩, hS.F ht⟩) hS.2.2 d_Model_named_172
  replace hm := if_f c_50 hm
  refine lv_tableOut (x := v1) (tgt := 173) hx hb d_Model_named_7 (by have q0 := lv_neT c_3 (show (49 : Int32).toInt = 49 from by decide); have q1 := lv_neT c_10 (show (50 : Int32).toInt = 50 from by decide); have q2 := lv_neT c_17 (show (51 : Int32).toInt = 51 from by decide); have q3 := lv_neT c_26 (show (52 : Int32).toInt = 52 from by decide); have q4 := lv_neT c_43 (show (53 : Int32).toInt = 53 from by decide); have q5 := lv_neT c_50 (show (54 : Int32).toInt = 54 from by decide); omega) (by decide) ?_
  refine lv_aload_n hx hb d_Model_named_173 rfl (lv_at hl 1 rfl) ?_
  refine lv_iload hx hb d_Model_named_174 (lv_at hl 0 rfl) ?_
  obtain ⟨r_60, h_59, hm⟩ := ob0_some hm
  have hFc := x_free0 hS hA
  refine va_calli (va_runV (As := [.int r_2]) (rest := []) ⟨hx, hb, hml, hown, hts⟩ (x_Model_procedureOf l dC dI cI cJ cB adK adV adA h v H.size n h_59) (cwV 1 hts (tw_GV tw_cons cw_Model_procedureOf lk_Model_488 in_Model_procedureOf sel_Model_procedureOf ini_Model) rfl rfl rfl ⟨rfl, hd_Model_procedureOf⟩ ⟨Nat.le_of_ble_eq_true rfl, Nat.le_of_ble_eq_true rfl⟩) (ypVr hK hP hS hE hFc yo_12 rfl) rfl rfl hl.1 rfl (lv_room (Nat.le_of_ble_eq_true rfl)) d_Model_named_176 ⟨Nat.le_of_ble_eq_true rfl, Nat.le_of_ble_eq_true rfl⟩) hS (fun q _ h => hFc q h) hFc (fun r9 u9 t9 H locs ht hvm e9 hB hz1 hk1 hS => ?_)
  have e9 : r_60 = r9 := e9
  subst e9
  replace hP := x_keep hP hk1
  clear hFc hk1 hz1 hvm hB ht
  refine lv_istore (lv' := [(7, .int r_60), (6, .int r_2), (0, .ref h), (1, .int v1), (2, .long v2), (4, .long v4)]) hx hb d_Model_named_179 hl (by decide) rfl (fun ls hl => ?_)
  refine lv_iload hx hb d_Model_named_181 (lv_at hl 0 rfl) ?_
  refine lv_iconst (v := -1) hx hb d_Model_named_183 (by decide) ?_
  refine lv_icmp_ne (tgt := 195) hx hb d_Model_named_184 (by decide) (fun c_61 => ?_) (fun c_61 => ?_)
  · replace hm := if_f c_61 hm
    refine lv_aload_n hx hb d_Model_named_195 rfl (lv_at hl 2 rfl) ?_
    refine va_get (D := (dC, dI)) (ci := 12) (v := .ref ((v 32))) (C := R_Model) (T := F_Model) (N := 127) hx hb htt iw_Model hown hK hP 0 yo_12 rfl 32 (Nat.le_of_ble_eq_true rfl) (htt _ lk_Model_192) (fun _ h9 => h9) yg_32 d_Model_named_196 ?_
    refine lv_iload hx hb d_Model_named_199 (lv_at hl 0 rfl) ?_
    obtain ⟨h_62, hm⟩ := ck_some hm
    refine va_lald hx hb hK hP 26 1 ya_32 rfl h_62 d_Model_named_201 ?_
    obtain ⟨e1i, e1j, e1a, e1b, e3⟩ := re4m hm
    obtain ⟨hP, hD⟩ := y_eq e1i e1j e1a e1b hP hD
    exact W.lret hx hb hr (fun t9 ht hW => ⟨⟨_, (), rfl, e3.symm, by rw [ht]; exact hP, hD⟩, hS.F ht⟩) hS.2.2 d_Model_named_202
  · replace hm := if_t c_61 hm
    refine lv_aload_n hx hb d_Model_named_187 rfl (lv_at hl 2 rfl) ?_
    refine lv_iconst (v := 1) hx hb d_Model_named_188 (by decide) ?_
    obtain ⟨i_64, j_65, a_66, b_67, r_68, h_63, hm⟩ := om_some hm
    have hFc := x_free hD hS hA
    refine va_calll (va_runV (As := [.int 1]) (rest := []) ⟨hx, hb, hml, hown, hts⟩ (x_Model_fails l dC dI cI cJ cB adK adV adA h v H.size n h_63) (cwV 1 hts (tw_GV tw_cons cw_Model_fails lk_Model_596 in_Model_fails sel_Model_fails ini_Model) rfl rfl rfl ⟨rfl, hd_Model_fails⟩ ⟨Nat.le_of_ble_eq_true rfl, Nat.le_of_ble_eq_true rfl⟩) (ypV hK hP hD hS hE hFc yo_12 rfl) rfl rfl hl.1 rfl (lv_room (Nat.le_of_ble_eq_true rfl)) d_Model_named_189 ⟨Nat.le_of_ble_eq_true rfl, Nat.le_of_ble_eq_true rfl⟩) hS (fun q _ h => hFc q h) hFc (fun r9 u9 t9 H locs ht hvm e9 hB hz1 hk1 hS => ?_)
    have e9 : r_68 = r9 := e9
    subst e9
    obtain ⟨hP, hD⟩ := y_aft hB ht hFc
    clear hFc hk1 hz1 hvm hB ht
    refine lv_goto (tgt := 202) hx hb d_Model_named_192 (by decide) ?_
    obtain ⟨e1i, e1j, e1a, e1b, e3⟩ := re4m hm
    obtain ⟨hP, hD⟩ := y_eq e1i e1j e1a e1b hP hD
    exact W.lret hx hb hr (fun t9 ht hW => ⟨⟨_, (), rfl, e3.symm, by rw [ht]; exact hP, hD⟩, hS.F ht⟩) hS.2.2 d_Model_named_202

def m_Model_define_b66 (n : Nat) (i : Nat → Int32) (j : Nat → Int64) (a : Nat → Nat → Int32) (b : Nat → Nat → Int64) (v1 : Int32) (v2 : Int32) (v3 : Int32) (v4 : Int32) : Option ((Nat → Int32) × (Nat → Int64) × (Nat → Nat → Int32) × (Nat → Nat → Int64) × Int32) := ob1 (upd i 18 v1 : Nat → Int32) (fun i_1 => ob1 (upd i_1 19 v2 : Nat → Int32) (fun i_2 => ob1 (upd i_2 20 v3 : Nat → Int32) (fun i_3 => ob1 (upd i_3 21 v4 : Nat → Int32) (fun i_4 => some (i_4, j, a, b, -(i_4 75))))))
set_option maxHeartbeats 4000000 in
set_option maxRecDepth 100000 in
theorem lb_Model_define_66 (l : Launch) (dC : Nat → ClassId) (dI : Nat → Nat → Nat) (cI cJ cB : ClassId) (adK adV adA : Nat → Nat) (h : Nat) (v : Nat → Nat) (n : Nat) {p : Program} {e : Env} {s : State} {m : MethodId} {args : Array Value} {below : List Frame} {meth : Method} {c : Code} {A : Nat → Prop} (hx : p.tables.exec = Jvm.exec) (hb : c.code = b_Model_define) (hml : c.maxLocals = 9) (hown : s.vm.findClass R_Model = some m.cls) (hts : ∀ w ∈ w_Model_define, w.before args s = true) (hK : va_K (dC, dI) classes [(cI, .int), (cJ, .long), (cB, .byte)] s) (hE : tw_E adK adV adA A s s.heap) (hA : ∀ q : Nat, s.heap.size ≤ q → A q) (hr : meth.sig.returnType = (some .int)) (hlocks : meth.locks = false) {i2 : Nat → Int32} {j2 : Nat → Int64} {a2 : Nat → Nat → Int32} {b2 : Nat → Nat → Int64} {r2 : Int32} (i : Nat → Int32) (j : Nat → Int64) (a : Nat → Nat → Int32) (b : Nat → Nat → Int64) (v1 : Int32) (v2 : Int32) (v3 : Int32) (v4 : Int32) (hm : m_Model_define_b66 n i j a b v1 v2 v3 v4 = some (i2, j2, a2, b2, r2)) : ∀ (H : Heap) (locs : List Loc) (ls : Array Slot), va_P (dC, dI) classes (MW cI cJ cB h v i j a b) H → va_D A (MW cI cJ cB h v i j a b) → va_S A s.heap H locs → lv_has ls 9 [(0, .ref h), (1, .int v1), (2, .int v2), (3, .int v3), (4, .int v4)] → W p l e ({ frames := 8, cells := 0, slots := 0, locals := 189 } : Room) s m args below meth c H locs 0 0 (MQ below (va_Qi (xR r2) (yB dC dI cI cJ cB h v i2 j2 a2 b2 A) A) args s 0 0 A) (F0 m 66 ls []) := by
  have htt : ∀ w ∈ tw_T, w.before _ s = true := fun w h => hts w (List.mem_cons_of_mem _ h)
  intro H locs ls hP hD hS hl
  rw [m_Model_define_b66] at hm
  refine lv_aload_n hx hb d_Model_define_66 rfl (lv_at hl 0 rfl) ?_
  refine lv_iload_n hx hb d_Model_define_67 rfl (lv_at hl 1 rfl) ?_
  refine va_put (D := (dC, dI)) (ci := 12) (v := .int v1) (ty := .int) (C := R_Model) (T := F_Model) (N := 127) hx hb htt iw_Model t_Model t_Model_ok n_Model hown hK hP hD hS 0 yo_12 rfl 18 (Nat.le_of_ble_eq_true rfl) (htt _ lk_Model_372) (fun _ h9 => h9) rfl (by decide +kernel) rfl rfl yl_18 d_Model_define_68 (fun H locs hP hD hS => ?_)
  obtain ⟨i_1, ei_1⟩ : ∃ y9 : Nat → Int32, y9 = upd i 18 v1 := ⟨_, rfl⟩
  replace hm := ob1_at ei_1 hm
  obtain ⟨hP, hD⟩ := yw_18 ei_1 hP hD
  refine lv_aload_n hx hb d_Model_define_71 rfl (lv_at hl 0 rfl) ?_
  refine lv_iload_n hx hb d_Model_define_72 rfl (lv_at hl 2 rfl) ?_
  refine va_put (D := (dC, dI)) (ci := 12) (v := .int v2) (ty := .int) (C := R_Model) (T := F_Model) (N := 127) hx hb htt iw_Model t_Model t_Model_ok n_Model hown hK hP hD hS 0 yo_12 rfl 19 (Nat.le_of_ble_eq_true rfl) (htt _ lk_Model_19) (fun _ h9 => h9) rfl (by decide +kernel) rfl rfl yl_19 d_Model_define_73 (fun H locs hP hD hS => ?_)
  obtain ⟨i_2, ei_2⟩ : ∃ y9 : Nat → Int32, y9 = upd i_1 19 v2 := ⟨_, rfl⟩
  replace hm := ob1_at ei_2 hm
  obtain ⟨hP, hD⟩ := yw_19 ei_2 hP hD
  refine lv_aload_n hx hb d_Model_define_76 rfl (lv_at hl 0 rfl) ?_
  refine lv_iload_n hx hb d_Model_define_77 rfl (lv_at hl 3 rfl) ?_
  refine va_put (D := (dC, dI)) (ci := 12) (v := .int v3) (ty := .int) (C := R_Model) (T := F_Model) (N := 127) hx hb htt iw_Model t_Model t_Model_ok n_Model hown hK hP hD hS 0 yo_12 rfl 20 (Nat.le_of_ble_eq_true rfl) (htt _ lk_Model_32) (fun _ h9 => h9) rfl (by decide +kernel) rfl rfl yl_20 d_Model_define_78 (fun H locs hP hD hS => ?_)
  obtain ⟨i_3, ei_3⟩ : ∃ y9 : Nat → Int32, y9 = upd i_2 20 v3 := ⟨_, rfl⟩
  replace hm := ob1_at ei_3 hm
  obtain ⟨hP, hD⟩ := yw_20 ei_3 hP hD
  refine lv_aload_n hx hb d_Model_define_81 rfl (lv_at hl 0 rfl) ?_
  refine lv_iload hx hb d_Model_define_82 (lv_at hl 4 rfl) ?_
  refine va_put (D := (dC, dI)) (ci := 12) (v := .int v4) (ty := .int) (C := R_Model) (T := F_Model) (N := 127) hx hb htt iw_Model t_Model t_Model_ok n_Model hown hK hP hD hS 0 yo_12 rfl 21 (Nat.le_of_ble_eq_true rfl) (htt _ lk_Model_44) (fun _ h9 => h9) rfl (by decide +kernel) rfl rfl yl_21 d_Model_define_84 (fun H locs hP hD hS => ?_)
  obtain ⟨i_4, ei_4⟩ : ∃ y9 : Nat → Int32, y9 = upd i_3 21 v4 := ⟨_, rfl⟩
  replace hm := ob1_at ei_4 hm
  obtain ⟨hP, hD⟩ := yw_21 ei_4 hP hD
  refine lv_aload_n hx hb d_Model_define_87 rfl (lv_at hl 0 rfl) ?_
  refine va_get (D := (dC, dI)) (ci := 12) (v := .int (i_4 75)) (C := R_Model) (T := F_Model) (N := 127) hx hb htt iw_Model hown hK hP 0 yo_12 rfl 75 (Nat.le_of_ble_eq_true rfl) (htt _ lk_Model_416) (fun _ h9 => h9) yg_75 d_Model_define_88 ?_
  refine lv_ineg hx hb d_Model_define_91 ?_
  obtain ⟨e1i, e1j, e1a, e1b, e3⟩ := re4m hm
  obtain ⟨hP, hD⟩ := y_eq e1i e1j e1a e1b hP hD
  exact W.iret hx hb hr (fun t9 ht hW => ⟨⟨_, (), rfl, e3.symm, by rw [ht]; exact hP, hD⟩, hS.F ht⟩) hS.2.2 d_Model_define_92
def m_Model_define_b135 (n : Nat) (rc_96 : (Nat → Int32) → (Nat → Int64) → (Nat → Nat → Int32) → (Nat → Nat → Int64) → Int32 → Option ((Nat → Int32) × (Nat → Int64) × (Nat → Nat → Int32) × (Nat → Nat → Int64) × Int32)) : Nat → (Nat → Int32) → (Nat → Int64) → (Nat → Nat → Int32) → (Nat → Nat → Int64) → Int32 → Int32 → Int32 → Option ((Nat → Int32) × (Nat → Int64) × (Nat → Nat → Int32) × (Nat → Nat → Int64) × Int32)
  | 0, _, _, _, _, _, _, _ => none
  | f + 1, i, j, a, b, v6, v7, v8 => ck v6 300 (if ((a 88 v6.toNatClampNeg)) ≤ v8 then ck v6 300 (ck v6 300 (om (m_Model_listOf n i j a b (a 90 v6.toNatClampNeg) (a 91 v6.toNatClampNeg)) (fun i_6 j_7 a_8 b_9 r_10 => ck v7 40 (ob1 (svl b_9 32 v7.toNatClampNeg r_10 : Nat → Nat → Int64) (fun b_12 => ob1 (v6 + 1 : Int32) (fun x_13 => rc_96 i_6 j_7 a_8 b_12 x_13)))))) else ck (((5 * v6) + v8)) 1500 (ck (((5 * v7) + v8)) 200 (ob1 (sv a 31 ((5 * v7) + v8).toNatClampNeg (a 89 ((5 * v6) + v8).toNatClampNeg) : Nat → Nat → Int32) (fun a_16 => ob1 (v8 + 1 : Int32) (fun x_17 => m_Model_define_b135 n rc_96 f i j a_16 b v6 v7 x_17)))))
set_option maxHeartbeats 4000000 in
set_option maxRecDepth 100000 in
theorem lb_Model_define_135 (l : Launch) (dC : Nat → ClassId) (dI : Nat → Nat → Nat) (cI cJ cB : ClassId) (adK adV adA : Nat → Nat) (h : Nat) (v : Nat → Nat) (n : Nat) {p : Program} {e : Env} {s : State} {m : MethodId} {args : Array Value} {below : List Frame} {meth : Method} {c : Code} {A : Nat → Prop} (hx : p.tables.exec = Jvm.exec) (hb : c.code = b_Model_define) (hml : c.maxLocals = 9) (hown : s.vm.findClass R_Model = some m.cls) (hts : ∀ w ∈ w_Model_define, w.before args s = true) (hK : va_K (dC, dI) classes [(cI, .int), (cJ, .long), (cB, .byte)] s) (hE : tw_E adK adV adA A s s.heap) (hA : ∀ q : Nat, s.heap.size ≤ q → A q) (hr : meth.sig.returnType = (some .int)) (hlocks : meth.locks = false) {i2 : Nat → Int32} {j2 : Nat → Int64} {a2 : Nat → Nat → Int32} {b2 : Nat → Nat → Int64} {r2 : Int32} (rc_96 : (Nat → Int32) → (Nat → Int64) → (Nat → Nat → Int32) → (Nat → Nat → Int64) → Int32 → Option ((Nat → Int32) × (Nat → Int64) × (Nat → Nat → Int32) × (Nat → Nat → Int64) × Int32)) (Hrc_96 : ∀ (i : Nat → Int32) (j : Nat → Int64) (a : Nat → Nat → Int32) (b : Nat → Nat → Int64) (v6 : Int32), rc_96 i j a b v6 = some (i2, j2, a2, b2, r2) → ∀ (H : Heap) (locs : List Loc) (ls : Array Slot), va_P (dC, dI) classes (MW cI cJ cB h v i j a b) H → va_D A (MW cI cJ cB h v i j a b) → va_S A s.heap H locs → lv_has ls 9 [(0, .ref h), (6, .int v6)] → W p l e ({ frames := 8, cells := 0, slots := 0, locals := 189 } : Room) s m args below meth c H locs 0 0 (MQ below (va_Qi (xR r2) (yB dC dI cI cJ cB h v i2 j2 a2 b2 A) A) args s 0 0 A) (F0 m 96 ls [])) : ∀ (f : Nat) (i : Nat → Int32) (j : Nat → Int64) (a : Nat → Nat → Int32) (b : Nat → Nat → Int64) (v6 : Int32) (v7 : Int32) (v8 : Int32), m_Model_define_b135 n rc_96 f i j a b v6 v7 v8 = some (i2, j2, a2, b2, r2) → ∀ (H : Heap) (locs : List Loc) (ls : Array Slot), va_P (dC, dI) classes (MW cI cJ cB h v i j a b) H → va_D A (MW cI cJ cB h v i j a b) → va_S A s.heap H locs → lv_has ls 9 [(0, .ref h), (6, .int v6), (7, .int v7), (8, .int v8)] → W p l e ({ frames := 8, cells := 0, slots := 0, locals := 189 } : Room) s m args below meth c H locs 0 0 (MQ below (va_Qi (xR r2) (yB dC dI cI cJ cB h v i2 j2 a2 b2 A) A) args s 0 0 A) (F0 m 135 ls []) := by
  have htt : ∀ w ∈ tw_T, w.before _ s = true := fun w h => hts w (List.mem_cons_of_mem _ h)
  intro f
  induction f with
  | zero =>
    intro i j a b v6 v7 v8 hm
    rw [m_Model_define_b135] at hm
    cases hm
  | succ f ih =>
    intro i j a b v6 v7 v8 hm H locs ls hP hD hS hl
    rw [m_Model_define_b135] at hm
    refine lv_iload hx hb d_Model_define_135 (lv_at hl 3 rfl) ?_
    refine lv_aload_n hx hb d_Model_define_137 rfl (lv_at hl 0 rfl) ?_
    refine va_get (D := (dC, dI)) (ci := 12) (v := .ref ((v 88))) (C := R_Model) (T := F_Model) (N := 127) hx hb htt iw_Model hown hK hP 0 yo_12 rfl 88 (Nat.le_of_ble_eq_true rfl) (htt _ lk_Model_288) (fun _ h9 => h9) yg_88 d_Model_define_138 ?_
    refine lv_iload hx hb d_Model_define_141 (lv_at hl 1 rfl) ?_
    obtain ⟨h_1, hm⟩ := ck_some hm
    refine va_iald hx hb hK hP 57 0 ya_88 rfl h_1 d_Model_define_143 ?_
    refine lv_icmp_ge (tgt := 177) hx hb d_Model_define_144 (by decide) (fun c_2 => ?_) (fun c_2 => ?_)
    · replace hm := if_t c_2 hm
      refine lv_aload_n hx hb d_Model_define_177 rfl (lv_at hl 0 rfl) ?_
      refine va_get (D := (dC, dI)) (ci := 12) (v := .ref ((v 32))) (C := R_Model) (T := F_Model) (N := 127) hx hb htt iw_Model hown hK hP 0 yo_12 rfl 32 (Nat.le_of_ble_eq_true rfl) (htt _ lk_Model_192) (fun _ h9 => h9) yg_32 d_Model_define_178 ?_
      refine lv_iload hx hb d_Model_define_181 (lv_at hl 2 rfl) ?_
      refine lv_aload_n hx hb d_Model_define_183 rfl (lv_at hl 0 rfl) ?_
      refine lv_aload_n hx hb d_Model_define_184 rfl (lv_at hl 0 rfl) ?_
      refine va_get (D := (dC, dI)) (ci := 12) (v := .ref ((v 90))) (C := R_Model) (T := F_Model) (N := 127) hx hb htt iw_Model hown hK hP 0 yo_12 rfl 90 (Nat.le_of_ble_eq_true rfl) (htt _ lk_Model_294) (fun _ h9 => h9) yg_90 d_Model_define_185 ?_
      refine lv_iload hx hb d_Model_define_188 (lv_at hl 1 rfl) ?_
      obtain ⟨h_3, hm⟩ := ck_some hm
      refine va_iald hx hb hK hP 59 0 ya_90 rfl h_3 d_Model_define_190 ?_
      refine lv_aload_n hx hb d_Model_define_191 rfl (lv_at hl 0 rfl) ?_
      refine va_get (D := (dC, dI)) (ci := 12) (v := .ref ((v 91))) (C := R_Model) (T := F_Model) (N := 127) hx hb htt iw_Model hown hK hP 0 yo_12 rfl 91 (Nat.le_of_ble_eq_true rfl) (htt _ lk_Model_297) (fun _ h9 => h9) yg_91 d_Model_define_192 ?_
      refine lv_iload hx hb d_Model_define_195 (lv_at hl 1 rfl) ?_
      obtain ⟨h_4, hm⟩ := ck_some hm
      refine va_iald hx hb hK hP 60 0 ya_91 rfl h_4 d_Model_define_197 ?_
      obtain ⟨i_6, j_7, a_8, b_9, r_10, h_5, hm⟩ := om_some hm
      have hFc := x_free hD hS hA
      refine va_calll (va_runV (As := [.int (a 90 v6.toNatClampNeg), .int (a 91 v6.toNatClampNeg)]) (rest := [.int v7, .ref ((v 32))]) ⟨hx, hb, hml, hown, hts⟩ (x_Model_listOf l dC dI cI cJ cB adK adV adA h v H.size n h_5) (cwV 2 hts (tw_GV tw_cons cw_Model_listOf lk_Model_504 in_Model_listOf sel_Model_listOf ini_Model) rfl rfl rfl ⟨rfl, hd_Model_listOf⟩ ⟨Nat.le_of_ble_eq_true rfl, Nat.le_of_ble_eq_true rfl⟩) (ypV hK hP hD hS hE hFc yo_12 rfl) rfl rfl hl.1 rfl (lv_room (Nat.le_of_ble_eq_true rfl)) d_Model_define_198 ⟨Nat.le_of_ble_eq_true rfl, Nat.le_of_ble_eq_true rfl⟩) hS (fun q _ h => hFc q h) hFc (fun r9 u9 t9 H locs ht hvm e9 hB hz1 hk1 hS => ?_)
      have e9 : r_10 = r9 := e9
      subst e9
      obtain ⟨hP, hD⟩ := y_aft hB ht hFc
      clear hFc hk1 hz1 hvm hB ht
      obtain ⟨h_11, hm⟩ := ck_some hm
      refine va_last hx hb hK hP hD hS 26 1 ya_32 rfl h_11 d_Model_define_201 (fun H locs hP hD hS => ?_)
      obtain ⟨b_12, eb_12⟩ : ∃ y9 : Nat → Nat → Int64, y9 = svl b_9 32 v7.toNatClampNeg r_10 := ⟨_, rfl⟩
      replace hm := ob1_at eb_12 hm
      obtain ⟨hP, hD⟩ := yv_32 eb_12 hP hD
      obtain ⟨x_13, ex_13⟩ : ∃ y9 : Int32, y9 = v6 + 1 := ⟨_, rfl⟩
      replace hm := ob1_at ex_13 hm
      refine lv_iinc (v := x_13) (lv' := [(6, .int x_13), (0, .ref h), (7, .int v7), (8, .int v8)]) hx hb d_Model_define_202 hl (k := 1) rfl (by rw [ex_13]; rfl) (by decide) rfl (fun ls hl => ?_)
      refine lv_goto (tgt := 96) hx hb d_Model_define_205 (by decide) ?_
      exact Hrc_96 _ _ _ _ _ hm _ _ _ hP hD hS (lv_sub hl [1, 0] rfl)
    · replace hm := if_f c_2 hm
      refine lv_aload_n hx hb d_Model_define_147 rfl (lv_at hl 0 rfl) ?_
      refine va_get (D := (dC, dI)) (ci := 12) (v := .ref ((v 31))) (C := R_Model) (T := F_Model) (N := 127) hx hb htt iw_Model hown hK hP 0 yo_12 rfl 31 (Nat.le_of_ble_eq_true rfl) (htt _ lk_Model_189) (fun _ h9 => h9) yg_31 d_Model_define_148 ?_
      refine lv_iconst (v := 5) hx hb d_Model_define_151 (by decide) ?_
      refine lv_iload hx hb d_Model_define_152 (lv_at hl 2 rfl) ?_
      refine lv_imul hx hb d_Model_define_154 ?_
      refine lv_iload hx hb d_Model_define_155 (lv_at hl 3 rfl) ?_
      refine lv_iadd hx hb d_Model_define_157 ?_
      refine lv_aload_n hx hb d_Model_define_158 rfl (lv_at hl 0 rfl) ?_
      refine va_get (D := (dC, dI)) (ci := 12) (v := .ref ((v 89))) (C := R_Model) (T := F_Model) (N := 127) hx hb htt iw_Model hown hK hP 0 yo_12 rfl 89 (Nat.le_of_ble_eq_true rfl) (htt _ lk_Model_291) (fun _ h9 => h9) yg_89 d_Model_define_159 ?_
      refine lv_iconst (v := 5) hx hb d_Model_define_162 (by decide) ?_
      refine lv_iload hx hb d_Model_define_163 (lv_at hl 1 rfl) ?_
      refine lv_imul hx hb d_Model_define_165 ?_
      refine lv_iload hx hb d_Model_define_166 (lv_at hl 3 rfl) ?_
      refine lv_iadd hx hb d_Model_define_168 ?_
      obtain ⟨h_14, hm⟩ := ck_some hm
      refine va_iald hx hb hK hP 58 0 ya_89 rfl h_14 d_Model_define_169 ?_
      obtain ⟨h_15, hm⟩ := ck_some hm
      refine va_iast hx hb hK hP hD hS 25 0 ya_31 rfl h_15 d_Model_define_170 (fun H locs hP hD hS => ?_)
      obtain ⟨a_16, ea_16⟩ : ∃ y9 : Nat → Nat → Int32, y9 = sv a 31 ((5 * v7) + v8).toNatClampNeg (a 89 ((5 * v6) + v8).toNatClampNeg) := ⟨_, rfl⟩
      replace hm := ob1_at ea_16 hm
      obtain ⟨hP, hD⟩ := yv_31 ea_16 hP hD
      obtain ⟨x_17, ex_17⟩ : ∃ y9 : Int32, y9 = v8 + 1 := ⟨_, rfl⟩
      replace hm := ob1_at ex_17 hm
      refine lv_iinc (v := x_17) (lv' := [(8, .int x_17), (0, .ref h), (6, .int v6), (7, .int v7)]) hx hb d_Model_define_171 hl (k := 3) rfl (by rw [ex_17]; rfl) (by decide) rfl (fun ls hl => ?_)
      refine lv_goto (tgt := 135) hx hb d_Model_define_174 (by decide) ?_
      exact ih _ _ _ _ _ _ _ hm _ _ _ hP hD hS (lv_sub hl [1, 2, 3, 0] rfl)
def m_Model_define_b96 (n : Nat) : Nat → (Nat → Int32) → (Nat → Int64) → (Nat → Nat → Int32) → (Nat → Nat → Int64) → Int32 → Option ((Nat → Int32) × (Nat → Int64) × (Nat → Nat → Int32) × (Nat → Nat → Int64) × Int32)
  | 0, _, _, _, _, _ => none
  | f + 1, i, j, a, b, v6 => if ((i 86)) ≤ v6 then ob1 (upd i 100 1 : Nat → Int32) (fun i_2 => ob0 (m_Model_number n (0 : Int32)) (fun r_4 => om (m_Model_tidy n i_2 j a b r_4) (fun i_6 j_7 a_8 b_9 r_10 => some (i_6, j_7, a_8, b_9, i_6 86)))) else ck v6 300 (om (m_Model_tell n i j a b (a 87 v6.toNatClampNeg)) (fun i_13 j_14 a_15 b_16 r_17 => ck v6 300 (ck r_17 40 (ob1 (sv a_15 30 r_17.toNatClampNeg (a_15 88 v6.toNatClampNeg) : Nat → Nat → Int32) (fun a_20 => m_Model_define_b135 n (m_Model_define_b96 n f) n i_13 j_14 a_20 b_16 v6 r_17 (0 : Int32))))))
set_option maxHeartbeats 4000000 in
set_option maxRecDepth 100000 in
theorem lb_Model_define_96 (l : Launch) (dC : Nat → ClassId) (dI : Nat → Nat → Nat) (cI cJ cB : ClassId) (adK adV adA : Nat → Nat) (h : Nat) (v : Nat → Nat) (n : Nat) {p : Program} {e : Env} {s : State} {m : MethodId} {args : Array Value} {below : List Frame} {meth : Method} {c : Code} {A : Nat → Prop} (hx : p.tables.exec = Jvm.exec) (hb : c.code = b_Model_define) (hml : c.maxLocals = 9) (hown : s.vm.findClass R_Model = some m.cls) (hts : ∀ w ∈ w_Model_define, w.before args s = true) (hK : va_K (dC, dI) classes [(cI, .int), (cJ, .long), (cB, .byte)] s) (hE : tw_E adK adV adA A s s.heap) (hA : ∀ q : Nat, s.heap.size ≤ q → A q) (hr : meth.sig.returnType = (some .int)) (hlocks : meth.locks = false) {i2 : Nat → Int32} {j2 : Nat → Int64} {a2 : Nat → Nat → Int32} {b2 : Nat → Nat → Int64} {r2 : Int32} : ∀ (f : Nat) (i : Nat → Int32) (j : Nat → Int64) (a : Nat → Nat → Int32) (b : Nat → Nat → Int64) (v6 : Int32), m_Model_define_b96 n f i j a b v6 = some (i2, j2, a2, b2, r2) → ∀ (H : Heap) (locs : List Loc) (ls : Array Slot), va_P (dC, dI) classes (MW cI cJ cB h v i j a b) H → va_D A (MW cI cJ cB h v i j a b) → va_S A s.heap H locs → lv_has ls 9 [(0, .ref h), (6, .int v6)] → W p l e ({ frames := 8, cells := 0, slots := 0, locals := 189 } : Room) s m args below meth c H locs 0 0 (MQ below (va_Qi (xR r2) (yB dC dI cI cJ cB h v i2 j2 a2 b2 A) A) args s 0 0 A) (F0 m 96 ls []) := by
  have htt : ∀ w ∈ tw_T, w.before _ s = true := fun w h => hts w (List.mem_cons_of_mem _ h)
  intro f
  induction f with
  | zero =>
    intro i j a b v6 hm
    rw [m_Model_define_b96] at hm
    cases hm
  | succ f ih =>
    intro i j a b v6 hm H locs ls hP hD hS hl
    rw [m_Model_define_b96] at hm
    refine lv_iload hx hb d_Model_define_96 (lv_at hl 1 rfl) ?_
    refine lv_aload_n hx hb d_Model_define_98 rfl (lv_at hl 0 rfl) ?_
    refine va_get (D := (dC, dI)) (ci := 12) (v := .int (i 86)) (C := R_Model) (T := F_Model) (N := 127) hx hb htt iw_Model hown hK hP 0 yo_12 rfl 86 (Nat.le_of_ble_eq_true rfl) (htt _ lk_Model_482) (fun _ h9 => h9) yg_86 d_Model_define_99 ?_
    refine lv_icmp_ge (tgt := 208) hx hb d_Model_define_102 (by decide) (fun c_1 => ?_) (fun c_1 => ?_)
    · replace hm := if_t c_1 hm
      refine lv_aload_n hx hb d_Model_define_208 rfl (lv_at hl 0 rfl) ?_
      refine lv_iconst (v := 1) hx hb d_Model_define_209 (by decide) ?_
      refine va_put (D := (dC, dI)) (ci := 12) (v := .int 1) (ty := .boolean) (C := R_Model) (T := F_Model) (N := 127) hx hb htt iw_Model t_Model t_Model_ok n_Model hown hK hP hD hS 0 yo_12 rfl 100 (Nat.le_of_ble_eq_true rfl) (htt _ lk_Model_507) (fun _ h9 => h9) rfl (by decide +kernel) (by decide) rfl yl_100 d_Model_define_210 (fun H locs hP hD hS => ?_)
      obtain ⟨i_2, ei_2⟩ : ∃ y9 : Nat → Int32, y9 = upd i 100 1 := ⟨_, rfl⟩
      replace hm := ob1_at ei_2 hm
      obtain ⟨hP, hD⟩ := yw_100 ei_2 hP hD
      refine lv_aload_n hx hb d_Model_define_213 rfl (lv_at hl 0 rfl) ?_
      refine lv_iconst (v := 0) hx hb d_Model_define_214 (by decide) ?_
      obtain ⟨r_4, h_3, hm⟩ := ob0_some hm
      have hFc := x_free0 hS hA
      refine va_calll (va_runS (As := [.int 0]) (rest := [.ref h]) ⟨hx, hb, hml, hown, hts⟩ (x_Model_number l H.size n h_3) (va_cwS 1 hts (tw_GS tw_cons cw_Model_number lk_Model_451 st_Model_number ini_Model) rfl rfl rfl hd_Model_number ⟨Nat.le_of_ble_eq_true rfl, Nat.le_of_ble_eq_true rfl⟩) xpS0 rfl rfl hl.1 rfl (lv_room (Nat.le_of_ble_eq_true rfl)) d_Model_define_215 ⟨Nat.le_of_ble_eq_true rfl, Nat.le_of_ble_eq_true rfl⟩) hS (fun q _ h => hFc q h) hFc (fun r9 u9 t9 H locs ht hvm e9 hB hz1 hk1 hS => ?_)
      have e9 : r_4 = r9 := e9
      subst e9
      replace hP := x_keep hP hk1
      clear hFc hk1 hz1 hvm hB ht
      obtain ⟨i_6, j_7, a_8, b_9, r_10, h_5, hm⟩ := om_some hm
      have hFc := x_free hD hS hA
      refine va_calll (va_runV (As := [.long r_4]) (rest := []) ⟨hx, hb, hml, hown, hts⟩ (x_Model_tidy l dC dI cI cJ cB adK adV adA h v H.size n h_5) (cwV 1 hts (tw_GV tw_cons cw_Model_tidy lk_Model_511 in_Model_tidy sel_Model_tidy ini_Model) rfl rfl rfl ⟨rfl, hd_Model_tidy⟩ ⟨Nat.le_of_ble_eq_true rfl, Nat.le_of_ble_eq_true rfl⟩) (ypV hK hP hD hS hE hFc yo_12 rfl) rfl rfl hl.1 rfl (lv_room (Nat.le_of_ble_eq_true rfl)) d_Model_define_218 ⟨Nat.le_of_ble_eq_true rfl, Nat.le_of_ble_eq_true rfl⟩) hS (fun q _ h => hFc q h) hFc (fun r9 u9 t9 H locs ht hvm e9 hB hz1 hk1 hS => ?_)
      have e9 : r_10 = r9 := e9
      subst e9
      obtain ⟨hP, hD⟩ := y_aft hB ht hFc
      clear hFc hk1 hz1 hvm hB ht
      refine lv_lstore (lv' := [(6, .long r_10), (0, .ref h)]) hx hb d_Model_define_221 hl (by decide) rfl (fun ls hl => ?_)
      refine lv_aload_n hx hb d_Model_define_223 rfl (lv_at hl 1 rfl) ?_
      refine va_get (D := (dC, dI)) (ci := 12) (v := .int (i_6 86)) (C := R_Model) (T := F_Model) (N := 127) hx hb htt iw_Model hown hK hP 0 yo_12 rfl 86 (Nat.le_of_ble_eq_true rfl) (htt _ lk_Model_482) (fun _ h9 => h9) yg_86 d_Model_define_224 ?_
      obtain ⟨e1i, e1j, e1a, e1b, e3⟩ := re4m hm
      obtain ⟨hP, hD⟩ := y_eq e1i e1j e1a e1b hP hD
      exact W.iret hx hb hr (fun t9 ht hW => ⟨⟨_, (), rfl, e3.symm, by rw [ht]; exact hP, hD⟩, hS.F ht⟩) hS.2.2 d_Model_define_227
    · replace hm := if_f c_1 hm
      refine lv_aload_n hx hb d_Model_define_105 rfl (lv_at hl 0 rfl) ?_
      refine lv_aload_n hx hb d_Model_define_106 rfl (lv_at hl 0 rfl) ?_
      refine va_get (D := (dC, dI)) (ci := 12) (v := .ref ((v 87))) (C := R_Model) (T := F_Model) (N := 127) hx hb htt iw_Model hown hK hP 0 yo_12 rfl 87 (Nat.le_of_ble_eq_true rfl) (htt _ lk_Model_285) (fun _ h9 => h9) yg_87 d_Model_define_107 ?_
      refine lv_iload hx hb d_Model_define_110 (lv_at hl 1 rfl) ?_
      obtain ⟨h_11, hm⟩ := ck_some hm
      refine va_iald hx hb hK hP 56 0 ya_87 rfl h_11 d_Model_define_112 ?_
      obtain ⟨i_13, j_14, a_15, b_16, r_17, h_12, hm⟩ := om_some hm
      have hFc := x_free hD hS hA
      refine va_calli (va_runV (As := [.int (a 87 v6.toNatClampNeg)]) (rest := []) ⟨hx, hb, hml, hown, hts⟩ (x_Model_tell l dC dI cI cJ cB adK adV adA h v H.size n h_12) (cwV 1 hts (tw_GV tw_cons cw_Model_tell lk_Model_501 in_Model_tell sel_Model_tell ini_Model) rfl rfl rfl ⟨rfl, hd_Model_tell⟩ ⟨Nat.le_of_ble_eq_true rfl, Nat.le_of_ble_eq_true rfl⟩) (ypV hK hP hD hS hE hFc yo_12 rfl) rfl rfl hl.1 rfl (lv_room (Nat.le_of_ble_eq_true rfl)) d_Model_define_113 ⟨Nat.le_of_ble_eq_true rfl, Nat.le_of_ble_eq_true rfl⟩) hS (fun q _ h => hFc q h) hFc (fun r9 u9 t9 H locs ht hvm e9 hB hz1 hk1 hS => ?_)
      have e9 : r_17 = r9 := e9
      subst e9
      obtain ⟨hP, hD⟩ := y_aft hB ht hFc
      clear hFc hk1 hz1 hvm hB ht
      refine lv_istore (lv' := [(7, .int r_17), (0, .ref h), (6, .int v6)]) hx hb d_Model_define_116 hl (by decide) rfl (fun ls hl => ?_)
      refine lv_aload_n hx hb d_Model_define_118 rfl (lv_at hl 1 rfl) ?_
      refine va_get (D := (dC, dI)) (ci := 12) (v := .ref ((v 30))) (C := R_Model) (T := F_Model) (N := 127) hx hb htt iw_Model hown hK hP 0 yo_12 rfl 30 (Nat.le_of_ble_eq_true rfl) (htt _ lk_Model_186) (fun _ h9 => h9) yg_30 d_Model_define_119 ?_
      refine lv_iload hx hb d_Model_define_122 (lv_at hl 0 rfl) ?_
      refine lv_aload_n hx hb d_Model_define_124 rfl (lv_at hl 1 rfl) ?_
      refine va_get (D := (dC, dI)) (ci := 12) (v := .ref ((v 88))) (C := R_Model) (T := F_Model) (N := 127) hx hb htt iw_Model hown hK hP 0 yo_12 rfl 88 (Nat.le_of_ble_eq_true rfl) (htt _ lk_Model_288) (fun _ h9 => h9) yg_88 d_Model_define_125 ?_
      refine lv_iload hx hb d_Model_define_128 (lv_at hl 2 rfl) ?_
      obtain ⟨h_18, hm⟩ := ck_some hm
      refine va_iald hx hb hK hP 57 0 ya_88 rfl h_18 d_Model_define_130 ?_
      obtain ⟨h_19, hm⟩ := ck_some hm
      refine va_iast hx hb hK hP hD hS 24 0 ya_30 rfl h_19 d_Model_define_131 (fun H locs hP hD hS => ?_)
      obtain ⟨a_20, ea_20⟩ : ∃ y9 : Nat → Nat → Int32, y9 = sv a_15 30 r_17.toNatClampNeg (a_15 88 v6.toNatClampNeg) := ⟨_, rfl⟩
      replace hm := ob1_at ea_20 hm
      obtain ⟨hP, hD⟩ := yv_30 ea_20 hP hD
      refine lv_iconst (v := 0) hx hb d_Model_define_132 (by decide) ?_
      refine lv_istore (lv' := [(8, .int 0), (7, .int r_17), (0, .ref h), (6, .int v6)]) hx hb d_Model_define_133 hl (by decide) rfl (fun ls hl => ?_)
      exact lb_Model_define_135 l dC dI cI cJ cB adK adV adA h v n hx hb hml hown hts hK hE hA hr hlocks (m_Model_define_b96 n f) ih n _ _ _ _ _ _ _ hm _ _ _ hP hD hS (lv_sub hl [2, 3, 1, 0] rfl)
def m_Model_define (n : Nat) (i : Nat → Int32) (j : Nat → Int64) (a : Nat → Nat → Int32) (b : Nat → Nat → Int64)  : Option ((Nat → Int32) × (Nat → Int64) × (Nat → Nat → Int32) × (Nat → Nat → Int64) × Int32) := ob1 (upd i 0 0 : Nat → Int32) (fun i_1 => if ((i_1 92)) = ((1 : Int32)) then some (i_1, j, a, b, (-20)) else ob1 (i_1 18 : Int32) (fun x_3 => ob1 (i_1 19 : Int32) (fun x_4 => ob1 (i_1 20 : Int32) (fun x_5 => ob1 (i_1 21 : Int32) (fun x_6 => ob1 (upd i_1 86 0 : Nat → Int32) (fun i_7 => om (m_Model_scan n i_7 j a b (1 : Int32)) (fun i_9 j_10 a_11 b_12 r_13 => ob1 (upd i_9 74 0 : Nat → Int32) (fun i_14 => if r_13 = ((0 : Int32)) then m_Model_define_b66 n i_14 j_10 a_11 b_12 x_3 x_4 x_5 x_6 else if ((i_14 86)) = ((0 : Int32)) then m_Model_define_b66 n i_14 j_10 a_11 b_12 x_3 x_4 x_5 x_6 else m_Model_define_b96 n n i_14 j_10 a_11 b_12 (0 : Int32)))))))))
set_option maxHeartbeats 4000000 in
set_option maxRecDepth 100000 in
theorem x_Model_define (l : Launch) (dC : Nat → ClassId) (dI : Nat → Nat → Nat) (cI cJ cB : ClassId) (adK adV adA : Nat → Nat) (h : Nat) (v : Nat → Nat) (sz : Nat) (n : Nat) {i : Nat → Int32} {j : Nat → Int64} {a : Nat → Nat → Int32} {b : Nat → Nat → Int64}  {i2 : Nat → Int32} {j2 : Nat → Int64} {a2 : Nat → Nat → Int32} {b2 : Nat → Nat → Int64} {r2 : Int32} (hm : m_Model_define n i j a b = some (i2, j2, a2, b2, r2)) : Met l y_Model_define w_Model_define ({ frames := 8, cells := 0, slots := 0, locals := 189 } : Room) (va_Pc [.ref h] (yE dC dI cI cJ cB adK adV adA h v i j a b sz)) (va_Qi (xR r2) (yB dC dI cI cJ cB h v i2 j2 a2 b2 (va_A (MW cI cJ cB h v i j a b) sz)) (va_A (MW cI cJ cB h v i j a b) sz)) 0 0 ((va_A (MW cI cJ cB h v i j a b) sz)) := by
  refine Met.ofW (cc := b_Model_define) (maxL := 9) (ret := (some .int)) (by decide) rfl ?_
  intro p e s m args below meth c s₁ B hml hv
  obtain ⟨rfl, hsz, hP, hK, hE, hD0⟩ := hv
  have hx := B.exec
  have hb := B.bytes
  have hr := B.returns
  have hts := atoms_spec (ws := w_Model_define) B.pre
  have htt : ∀ w ∈ tw_T, w.before _ s = true := fun w h => hts w (List.mem_cons_of_mem _ h)
  have hown : s.vm.findClass R_Model = some m.cls := findClass_of_methodNamed B.named
  have hlocks := B.notSynchronized
  subst hsz
  have hD := hD0.self (sz := s.heap.size)
  generalize hAe : (va_A (MW cI cJ cB h v i j a b) s.heap.size) = A at hD hE ⊢
  have hA : ∀ q : Nat, s.heap.size ≤ q → A q := fun q h => by rw [← hAe]; exact Or.inr h
  have hS : va_S A s.heap s.heap [] := va_S.rf
  have hl := lv_entry ([.ref h]) (n := 9) (Nat.le_of_ble_eq_true rfl)
  rw [lg_entry_eq]
  generalize (lg_sl ([.ref h]) ++ List.replicate (9 - (lg_sl ([.ref h])).length) Slot.unset).toArray = ls at hl ⊢
  have hl : lv_has ls 9 [(0, .ref h)] := hl
  rw [m_Model_define] at hm
  refine lv_aload_n hx hb d_Model_define_0 rfl (lv_at hl 0 rfl) ?_
  refine lv_iconst (v := 0) hx hb d_Model_define_1 (by decide) ?_
  refine va_put (D := (dC, dI)) (ci := 12) (v := .int 0) (ty := .int) (C := R_Model) (T := F_Model) (N := 127) hx hb htt iw_Model t_Model t_Model_ok n_Model hown hK hP hD hS 0 yo_12 rfl 0 (Nat.le_of_ble_eq_true rfl) (htt _ lk_Model_1) (fun _ h9 => h9) rfl (by decide +kernel) rfl rfl yl_0 d_Model_define_2 (fun H locs hP hD hS => ?_)
  obtain ⟨i_1, ei_1⟩ : ∃ y9 : Nat → Int32, y9 = upd i 0 0 := ⟨_, rfl⟩
  replace hm := ob1_at ei_1 hm
  obtain ⟨hP, hD⟩ := yw_0 ei_1 hP hD
  refine lv_aload_n hx hb d_Model_define_5 rfl (lv_at hl 0 rfl) ?_
  refine va_get (D := (dC, dI)) (ci := 12) (v := .int (i_1 92)) (C := R_Model) (T := F_Model) (N := 127) hx hb htt iw_Model hown hK hP 0 yo_12 rfl 92 (Nat.le_of_ble_eq_true rfl) (htt _ lk_Model_494) (fun _ h9 => h9) yg_92 d_Model_define_6 ?_
  refine lv_iconst (v := 1) hx hb d_Model_define_9 (by decide) ?_
  refine lv_icmp_ne (tgt := 16) hx hb d_Model_define_10 (by decide) (fun c_2 => ?_) (fun c_2 => ?_)
  · replace hm := if_f c_2 hm
    refine lv_aload_n hx hb d_Model_define_16 rfl (lv_at hl 0 rfl) ?_
    refine va_get (D := (dC, dI)) (ci := 12) (v := .int (i_1 18)) (C := R_Model) (T := F_Model) (N := 127) hx hb htt iw_Model hown hK hP 0 yo_12 rfl 18 (Nat.le_of_ble_eq_true rfl) (htt _ lk_Model_372) (fun _ h9 => h9) yg_18 d_Model_define_17 ?_
    refine lv_topi (fun x_3 ex_3 => ?_)
    replace hm := ob1_at ex_3 hm
    refine lv_istore_n (lv' := [(1, .int x_3), (0, .ref h)]) hx hb d_Model_define_20 rfl hl (by decide) rfl (fun ls hl => ?_)
    refine lv_aload_n hx hb d_Model_define_21 rfl (lv_at hl 1 rfl) ?_
    refine va_get (D := (dC, dI)) (ci := 12) (v := .int (i_1 19)) (C := R_Model) (T := F_Model) (N := 127) hx hb htt iw_Model hown hK hP 0 yo_12 rfl 19 (Nat.le_of_ble_eq_true rfl) (htt _ lk_Model_19) (fun _ h9 => h9) yg_19 d_Model_define_22 ?_
    refine lv_topi (fun x_4 ex_4 => ?_)
    replace hm := ob1_at ex_4 hm
    refine lv_istore_n (lv' := [(2, .int x_4), (1, .int x_3), (0, .ref h)]) hx hb d_Model_define_25 rfl hl (by decide) rfl (fun ls hl => ?_)
    refine lv_aload_n hx hb d_Model_define_26 rfl (lv_at hl 2 rfl) ?_
    refine va_get (D := (dC, dI)) (ci := 12) (v := .int (i_1 20)) (C := R_Model) (T := F_Model) (N := 127) hx hb htt iw_Model hown hK hP 0 yo_12 rfl 20 (Nat.le_of_ble_eq_true rfl) (htt _ lk_Model_32) (fun _ h9 => h9) yg_20 d_Model_define_27 ?_
    refine lv_topi (fun x_5 ex_5 => ?_)
    replace hm := ob1_at ex_5 hm
    refine lv_istore_n (lv' := [(3, .int x_5), (2, .int x_4), (1, .int x_3), (0, .ref h)]) hx hb d_Model_define_30 rfl hl (by decide) rfl (fun ls hl => ?_)
    refine lv_aload_n hx hb d_Model_define_31 rfl (lv_at hl 3 rfl) ?_
    refine va_get (D := (dC, dI)) (ci := 12) (v := .int (i_1 21)) (C := R_Model) (T := F_Model) (N := 127) hx hb htt iw_Model hown hK hP 0 yo_12 rfl 21 (Nat.le_of_ble_eq_true rfl) (htt _ lk_Model_44) (fun _ h9 => h9) yg_21 d_Model_define_32 ?_
    refine lv_topi (fun x_6 ex_6 => ?_)
    replace hm := ob1_at ex_6 hm
    refine lv_istore (lv' := [(4, .int x_6), (3, .int x_5), (2, .int x_4), (1, .int x_3), (0, .ref h)]) hx hb d_Model_define_35 hl (by decide) rfl (fun ls hl => ?_)
    refine lv_aload_n hx hb d_Model_define_37 rfl (lv_at hl 4 rfl) ?_
    refine lv_iconst (v := 0) hx hb d_Model_define_38 (by decide) ?_
    refine va_put (D := (dC, dI)) (ci := 12) (v := .int 0) (ty := .int) (C := R_Model) (T := F_Model) (N := 127) hx hb htt iw_Model t_Model t_Model_ok n_Model hown hK hP hD hS 0 yo_12 rfl 86 (Nat.le_of_ble_eq_true rfl) (htt _ lk_Model_482) (fun _ h9 => h9) rfl (by decide +kernel) rfl rfl yl_86 d_Model_define_39 (fun H locs hP hD hS => ?_)
    obtain ⟨i_7, ei_7⟩ : ∃ y9 : Nat → Int32, y9 = upd i_1 86 0 := ⟨_, rfl⟩
    replace hm := ob1_at ei_7 hm
    obtain ⟨hP, hD⟩ := yw_86 ei_7 hP hD
    refine lv_aload_n hx hb d_Model_define_42 rfl (lv_at hl 4 rfl) ?_
    refine lv_iconst (v := 1) hx hb d_Model_define_43 (by decide) ?_
    obtain ⟨i_9, j_10, a_11, b_12, r_13, h_8, hm⟩ := om_some hm
    have hFc := x_free hD hS hA
    refine va_calli (va_runV (As := [.int 1]) (rest := []) ⟨hx, hb, hml, hown, hts⟩ (x_Model_scan l dC dI cI cJ cB adK adV adA h v H.size n h_8) (cwV 1 hts (tw_GV tw_cons cw_Model_scan lk_Model_497 in_Model_scan sel_Model_scan ini_Model) rfl rfl rfl ⟨rfl, hd_Model_scan⟩ ⟨Nat.le_of_ble_eq_true rfl, Nat.le_of_ble_eq_true rfl⟩) (ypV hK hP hD hS hE hFc yo_12 rfl) rfl rfl hl.1 rfl (lv_room (Nat.le_of_ble_eq_true rfl)) d_Model_define_44 ⟨Nat.le_of_ble_eq_true rfl, Nat.le_of_ble_eq_true rfl⟩) hS (fun q _ h => hFc q h) hFc (fun r9 u9 t9 H locs ht hvm e9 hB hz1 hk1 hS => ?_)
    have e9 : r_13 = r9 := e9
    subst e9
    obtain ⟨hP, hD⟩ := y_aft hB ht hFc
    clear hFc hk1 hz1 hvm hB ht
    refine lv_istore (lv' := [(5, .int r_13), (4, .int x_6), (3, .int x_5), (2, .int x_4), (1, .int x_3), (0, .ref h)]) hx hb d_Model_define_47 hl (by decide) rfl (fun ls hl => ?_)
    refine lv_aload_n hx hb d_Model_define_49 rfl (lv_at hl 5 rfl) ?_
    refine lv_iconst (v := 0) hx hb d_Model_define_50 (by decide) ?_
    refine va_put (D := (dC, dI)) (ci := 12) (v := .int 0) (ty := .int) (C := R_Model) (T := F_Model) (N := 127) hx hb htt iw_Model t_Model t_Model_ok n_Model hown hK hP hD hS 0 yo_12 rfl 74 (Nat.le_of_ble_eq_true rfl) (htt _ lk_Model_409) (fun _ h9 => h9) rfl (by decide +kernel) rfl rfl yl_74 d_Model_define_51 (fun H locs hP hD hS => ?_)
    obtain ⟨i_14, ei_14⟩ : ∃ y9 : Nat → Int32, y9 = upd i_9 74 0 := ⟨_, rfl⟩
    replace hm := ob1_at ei_14 hm
    obtain ⟨hP, hD⟩ := yw_74 ei_14 hP hD
    refine lv_iload hx hb d_Model_define_54 (lv_at hl 0 rfl) ?_
    refine lv_if_eq (tgt := 66) hx hb d_Model_define_56 (by decide) (fun c_15 => ?_) (fun c_15 => ?_)
    · replace hm := if_t c_15 hm
      exact lb_Model_define_66 l dC dI cI cJ cB adK adV adA h v n hx hb hml hown hts hK hE hA hr hlocks _ _ _ _ _ _ _ _ hm _ _ _ hP hD hS (lv_sub hl [5, 4, 3, 2, 1] rfl)
    · replace hm := if_f c_15 hm
      refine lv_aload_n hx hb d_Model_define_59 rfl (lv_at hl 5 rfl) ?_
      refine va_get (D := (dC, dI)) (ci := 12) (v := .int (i_14 86)) (C := R_Model) (T := F_Model) (N := 127) hx hb htt iw_Model hown hK hP 0 yo_12 rfl 86 (Nat.le_of_ble_eq_true rfl) (htt _ lk_Model_482) (fun _ h9 => h9) yg_86 d_Model_define_60 ?_
      refine lv_if_ne (tgt := 93) hx hb d_Model_define_63 (by decide) (fun c_16 => ?_) (fun c_16 => ?_)
      · replace hm := if_f c_16 hm
        refine lv_iconst (v := 0) hx hb d_Model_define_93 (by decide) ?_
        refine lv_istore (lv' := [(6, .int 0), (5, .int r_13), (4, .int x_6), (3, .int x_5), (2, .int x_4), (1, .int x_3), (0, .ref h)]) hx hb d_Model_define_94 hl (by decide) rfl (fun ls hl => ?_)
        exact lb_Model_define_96 l dC dI cI cJ cB adK adV adA h v n hx hb hml hown hts hK hE hA hr hlocks n _ _ _ _ _ hm _ _ _ hP hD hS (lv_sub hl [6, 0] rfl)
      · replace hm := if_t c_16 hm
        exact lb_Model_define_66 l dC dI cI cJ cB adK adV adA h v n hx hb hml hown hts hK hE hA hr hlocks _ _ _ _ _ _ _ _ hm _ _ _ hP hD hS (lv_sub hl [5, 4, 3, 2, 1] rfl)
  · replace hm := if_t c_2 hm
    refine lv_bipush (v := -20) hx hb d_Model_define_13 (by decide) ?_
    obtain ⟨e1i, e1j, e1a, e1b, e3⟩ := re4m hm
    obtain ⟨hP, hD⟩ := y_eq e1i e1j e1a e1b hP hD
    exact W.iret hx hb hr (fun t9 ht hW => ⟨⟨_, (), rfl, e3.symm, by rw [ht]; exact hP, hD⟩, hS.F ht⟩) hS.2.2 d_Model_define_15
