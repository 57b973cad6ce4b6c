theorem d_Deeds_turtleWord_0 : decode b_Deeds_turtleWord 0 = .ok (.aload_n 0, 1) := by decide +kernel
theorem d_Deeds_turtleWord_1 : decode b_Deeds_turtleWord 1 = .ok (.getfield 22, 3) := by decide +kernel
theorem d_Deeds_turtleWord_4 : decode b_Deeds_turtleWord 4 = .ok (.iconst 0, 1) := by decide +kernel
theorem d_Deeds_turtleWord_5 : decode b_Deeds_turtleWord 5 = .ok (.invokevirtual 62, 3) := by decide +kernel
theorem d_Deeds_turtleWord_8 : decode b_Deeds_turtleWord 8 = .ok (.iconst 1, 1) := by decide +kernel
theorem d_Deeds_turtleWord_9 : decode b_Deeds_turtleWord 9 = .ok (.ishr, 1) := by decide +kernel
theorem d_Deeds_turtleWord_10 : decode b_Deeds_turtleWord 10 = .ok (.istore_n 2, 1) := by decide +kernel
theorem d_Deeds_turtleWord_11 : decode b_Deeds_turtleWord 11 = .ok (.aload_n 0, 1) := by decide +kernel
theorem d_Deeds_turtleWord_12 : decode b_Deeds_turtleWord 12 = .ok (.getfield 22, 3) := by decide +kernel
theorem d_Deeds_turtleWord_15 : decode b_Deeds_turtleWord 15 = .ok (.iconst 1, 1) := by decide +kernel
theorem d_Deeds_turtleWord_16 : decode b_Deeds_turtleWord 16 = .ok (.invokevirtual 62, 3) := by decide +kernel
theorem d_Deeds_turtleWord_19 : decode b_Deeds_turtleWord 19 = .ok (.iconst 1, 1) := by decide +kernel
theorem d_Deeds_turtleWord_20 : decode b_Deeds_turtleWord 20 = .ok (.ishr, 1) := by decide +kernel
theorem d_Deeds_turtleWord_21 : decode b_Deeds_turtleWord 21 = .ok (.istore_n 3, 1) := by decide +kernel
theorem d_Deeds_turtleWord_22 : decode b_Deeds_turtleWord 22 = .ok (.iload_n 1, 1) := by decide +kernel
theorem d_Deeds_turtleWord_23 : decode b_Deeds_turtleWord 23 = .ok (.tableswitch 285 1 19 #[89, 98, 108, 117, 127, 137, 146, 155, 164, 172, 182, 190, 199, 221, 233, 245, 256, 267, 278], 89) := by decide +kernel
theorem d_Deeds_turtleWord_112 : decode b_Deeds_turtleWord 112 = .ok (.aload_n 0, 1) := by decide +kernel
theorem d_Deeds_turtleWord_113 : decode b_Deeds_turtleWord 113 = .ok (.getfield 34, 3) := by decide +kernel
theorem d_Deeds_turtleWord_116 : decode b_Deeds_turtleWord 116 = .ok (.iload_n 2, 1) := by decide +kernel
theorem d_Deeds_turtleWord_117 : decode b_Deeds_turtleWord 117 = .ok (.invokevirtual 90, 3) := by decide +kernel
theorem d_Deeds_turtleWord_120 : decode b_Deeds_turtleWord 120 = .ok (.ireturn, 1) := by decide +kernel
theorem d_Deeds_turtleWord_121 : decode b_Deeds_turtleWord 121 = .ok (.aload_n 0, 1) := by decide +kernel
theorem d_Deeds_turtleWord_122 : decode b_Deeds_turtleWord 122 = .ok (.getfield 34, 3) := by decide +kernel
theorem d_Deeds_turtleWord_125 : decode b_Deeds_turtleWord 125 = .ok (.iload_n 2, 1) := by decide +kernel
theorem d_Deeds_turtleWord_126 : decode b_Deeds_turtleWord 126 = .ok (.ineg, 1) := by decide +kernel
theorem d_Deeds_turtleWord_127 : decode b_Deeds_turtleWord 127 = .ok (.invokevirtual 90, 3) := by decide +kernel
theorem d_Deeds_turtleWord_130 : decode b_Deeds_turtleWord 130 = .ok (.ireturn, 1) := by decide +kernel
theorem d_Deeds_turtleWord_131 : decode b_Deeds_turtleWord 131 = .ok (.aload_n 0, 1) := by decide +kernel
theorem d_Deeds_turtleWord_132 : decode b_Deeds_turtleWord 132 = .ok (.getfield 34, 3) := by decide +kernel
theorem d_Deeds_turtleWord_135 : decode b_Deeds_turtleWord 135 = .ok (.iload_n 2, 1) := by decide +kernel
theorem d_Deeds_turtleWord_136 : decode b_Deeds_turtleWord 136 = .ok (.invokevirtual 95, 3) := by decide +kernel
theorem d_Deeds_turtleWord_139 : decode b_Deeds_turtleWord 139 = .ok (.ireturn, 1) := by decide +kernel
theorem d_Deeds_turtleWord_140 : decode b_Deeds_turtleWord 140 = .ok (.aload_n 0, 1) := by decide +kernel
theorem d_Deeds_turtleWord_141 : decode b_Deeds_turtleWord 141 = .ok (.getfield 34, 3) := by decide +kernel
theorem d_Deeds_turtleWord_144 : decode b_Deeds_turtleWord 144 = .ok (.iload_n 2, 1) := by decide +kernel
theorem d_Deeds_turtleWord_145 : decode b_Deeds_turtleWord 145 = .ok (.ineg, 1) := by decide +kernel
theorem d_Deeds_turtleWord_146 : decode b_Deeds_turtleWord 146 = .ok (.invokevirtual 95, 3) := by decide +kernel
theorem d_Deeds_turtleWord_149 : decode b_Deeds_turtleWord 149 = .ok (.ireturn, 1) := by decide +kernel
theorem d_Deeds_turtleWord_150 : decode b_Deeds_turtleWord 150 = .ok (.aload_n 0, 1) := by decide +kernel
theorem d_Deeds_turtleWord_151 : decode b_Deeds_turtleWord 151 = .ok (.getfield 34, 3) := by decide +kernel
theorem d_Deeds_turtleWord_154 : decode b_Deeds_turtleWord 154 = .ok (.iconst 0, 1) := by decide +kernel
theorem d_Deeds_turtleWord_155 : decode b_Deeds_turtleWord 155 = .ok (.iload_n 2, 1) := by decide +kernel
theorem d_Deeds_turtleWord_156 : decode b_Deeds_turtleWord 156 = .ok (.invokevirtual 98, 3) := by decide +kernel
theorem d_Deeds_turtleWord_159 : decode b_Deeds_turtleWord 159 = .ok (.ireturn, 1) := by decide +kernel
theorem d_Deeds_turtleWord_160 : decode b_Deeds_turtleWord 160 = .ok (.aload_n 0, 1) := by decide +kernel
theorem d_Deeds_turtleWord_161 : decode b_Deeds_turtleWord 161 = .ok (.getfield 34, 3) := by decide +kernel
theorem d_Deeds_turtleWord_164 : decode b_Deeds_turtleWord 164 = .ok (.iconst 0, 1) := by decide +kernel
theorem d_Deeds_turtleWord_165 : decode b_Deeds_turtleWord 165 = .ok (.invokevirtual 101, 3) := by decide +kernel
theorem d_Deeds_turtleWord_168 : decode b_Deeds_turtleWord 168 = .ok (.ireturn, 1) := by decide +kernel
theorem d_Deeds_turtleWord_169 : decode b_Deeds_turtleWord 169 = .ok (.aload_n 0, 1) := by decide +kernel
theorem d_Deeds_turtleWord_170 : decode b_Deeds_turtleWord 170 = .ok (.getfield 34, 3) := by decide +kernel
theorem d_Deeds_turtleWord_173 : decode b_Deeds_turtleWord 173 = .ok (.iconst 1, 1) := by decide +kernel
theorem d_Deeds_turtleWord_174 : decode b_Deeds_turtleWord 174 = .ok (.invokevirtual 101, 3) := by decide +kernel
theorem d_Deeds_turtleWord_177 : decode b_Deeds_turtleWord 177 = .ok (.ireturn, 1) := by decide +kernel
theorem d_Deeds_turtleWord_178 : decode b_Deeds_turtleWord 178 = .ok (.aload_n 0, 1) := by decide +kernel
theorem d_Deeds_turtleWord_179 : decode b_Deeds_turtleWord 179 = .ok (.getfield 34, 3) := by decide +kernel
theorem d_Deeds_turtleWord_182 : decode b_Deeds_turtleWord 182 = .ok (.iload_n 2, 1) := by decide +kernel
theorem d_Deeds_turtleWord_183 : decode b_Deeds_turtleWord 183 = .ok (.invokevirtual 105, 3) := by decide +kernel
theorem d_Deeds_turtleWord_186 : decode b_Deeds_turtleWord 186 = .ok (.ireturn, 1) := by decide +kernel
theorem d_Deeds_turtleWord_187 : decode b_Deeds_turtleWord 187 = .ok (.aload_n 0, 1) := by decide +kernel
theorem d_Deeds_turtleWord_188 : decode b_Deeds_turtleWord 188 = .ok (.getfield 34, 3) := by decide +kernel
theorem d_Deeds_turtleWord_191 : decode b_Deeds_turtleWord 191 = .ok (.invokevirtual 108, 3) := by decide +kernel
theorem d_Deeds_turtleWord_194 : decode b_Deeds_turtleWord 194 = .ok (.ireturn, 1) := by decide +kernel
theorem d_Deeds_turtleWord_195 : decode b_Deeds_turtleWord 195 = .ok (.aload_n 0, 1) := by decide +kernel
theorem d_Deeds_turtleWord_196 : decode b_Deeds_turtleWord 196 = .ok (.getfield 34, 3) := by decide +kernel
theorem d_Deeds_turtleWord_199 : decode b_Deeds_turtleWord 199 = .ok (.iload_n 2, 1) := by decide +kernel
theorem d_Deeds_turtleWord_200 : decode b_Deeds_turtleWord 200 = .ok (.iload_n 3, 1) := by decide +kernel
theorem d_Deeds_turtleWord_201 : decode b_Deeds_turtleWord 201 = .ok (.invokevirtual 112, 3) := by decide +kernel
theorem d_Deeds_turtleWord_204 : decode b_Deeds_turtleWord 204 = .ok (.ireturn, 1) := by decide +kernel
theorem d_Deeds_turtleWord_205 : decode b_Deeds_turtleWord 205 = .ok (.aload_n 0, 1) := by decide +kernel
theorem d_Deeds_turtleWord_206 : decode b_Deeds_turtleWord 206 = .ok (.getfield 34, 3) := by decide +kernel
theorem d_Deeds_turtleWord_209 : decode b_Deeds_turtleWord 209 = .ok (.invokevirtual 115, 3) := by decide +kernel
theorem d_Deeds_turtleWord_212 : decode b_Deeds_turtleWord 212 = .ok (.ireturn, 1) := by decide +kernel
theorem d_Deeds_turtleWord_213 : decode b_Deeds_turtleWord 213 = .ok (.aload_n 0, 1) := by decide +kernel
theorem d_Deeds_turtleWord_214 : decode b_Deeds_turtleWord 214 = .ok (.getfield 34, 3) := by decide +kernel
theorem d_Deeds_turtleWord_217 : decode b_Deeds_turtleWord 217 = .ok (.iload_n 2, 1) := by decide +kernel
theorem d_Deeds_turtleWord_218 : decode b_Deeds_turtleWord 218 = .ok (.invokevirtual 118, 3) := by decide +kernel
theorem d_Deeds_turtleWord_221 : decode b_Deeds_turtleWord 221 = .ok (.ireturn, 1) := by decide +kernel
theorem d_Deeds_turtleWord_222 : decode b_Deeds_turtleWord 222 = .ok (.bipush 30, 2) := by decide +kernel
theorem d_Deeds_turtleWord_224 : decode b_Deeds_turtleWord 224 = .ok (.aload_n 0, 1) := by decide +kernel
theorem d_Deeds_turtleWord_225 : decode b_Deeds_turtleWord 225 = .ok (.getfield 34, 3) := by decide +kernel
theorem d_Deeds_turtleWord_228 : decode b_Deeds_turtleWord 228 = .ok (.aload_n 0, 1) := by decide +kernel
theorem d_Deeds_turtleWord_229 : decode b_Deeds_turtleWord 229 = .ok (.getfield 34, 3) := by decide +kernel
theorem d_Deeds_turtleWord_232 : decode b_Deeds_turtleWord 232 = .ok (.getfield 121, 3) := by decide +kernel
theorem d_Deeds_turtleWord_235 : decode b_Deeds_turtleWord 235 = .ok (.iconst 4, 1) := by decide +kernel
theorem d_Deeds_turtleWord_236 : decode b_Deeds_turtleWord 236 = .ok (.invokevirtual 124, 3) := by decide +kernel
theorem d_Deeds_turtleWord_239 : decode b_Deeds_turtleWord 239 = .ok (.imul, 1) := by decide +kernel
theorem d_Deeds_turtleWord_240 : decode b_Deeds_turtleWord 240 = .ok (.invokestatic 127, 3) := by decide +kernel
theorem d_Deeds_turtleWord_243 : decode b_Deeds_turtleWord 243 = .ok (.ireturn, 1) := by decide +kernel
theorem d_Deeds_turtleWord_244 : decode b_Deeds_turtleWord 244 = .ok (.aload_n 0, 1) := by decide +kernel
theorem d_Deeds_turtleWord_245 : decode b_Deeds_turtleWord 245 = .ok (.getfield 34, 3) := by decide +kernel
theorem d_Deeds_turtleWord_248 : decode b_Deeds_turtleWord 248 = .ok (.iconst 0, 1) := by decide +kernel
theorem d_Deeds_turtleWord_249 : decode b_Deeds_turtleWord 249 = .ok (.invokevirtual 130, 3) := by decide +kernel
theorem d_Deeds_turtleWord_252 : decode b_Deeds_turtleWord 252 = .ok (.invokestatic 127, 3) := by decide +kernel
theorem d_Deeds_turtleWord_255 : decode b_Deeds_turtleWord 255 = .ok (.ireturn, 1) := by decide +kernel
theorem d_Deeds_turtleWord_256 : decode b_Deeds_turtleWord 256 = .ok (.aload_n 0, 1) := by decide +kernel
theorem d_Deeds_turtleWord_257 : decode b_Deeds_turtleWord 257 = .ok (.getfield 34, 3) := by decide +kernel
theorem d_Deeds_turtleWord_260 : decode b_Deeds_turtleWord 260 = .ok (.iconst 1, 1) := by decide +kernel
theorem d_Deeds_turtleWord_261 : decode b_Deeds_turtleWord 261 = .ok (.invokevirtual 130, 3) := by decide +kernel
theorem d_Deeds_turtleWord_264 : decode b_Deeds_turtleWord 264 = .ok (.invokestatic 127, 3) := by decide +kernel
theorem d_Deeds_turtleWord_267 : decode b_Deeds_turtleWord 267 = .ok (.ireturn, 1) := by decide +kernel
theorem d_Deeds_turtleWord_268 : decode b_Deeds_turtleWord 268 = .ok (.aload_n 0, 1) := by decide +kernel
theorem d_Deeds_turtleWord_269 : decode b_Deeds_turtleWord 269 = .ok (.getfield 34, 3) := by decide +kernel
theorem d_Deeds_turtleWord_272 : decode b_Deeds_turtleWord 272 = .ok (.invokevirtual 133, 3) := by decide +kernel
theorem d_Deeds_turtleWord_275 : decode b_Deeds_turtleWord 275 = .ok (.invokestatic 127, 3) := by decide +kernel
theorem d_Deeds_turtleWord_278 : decode b_Deeds_turtleWord 278 = .ok (.ireturn, 1) := by decide +kernel
theorem d_Deeds_turtleWord_279 : decode b_Deeds_turtleWord 279 = .ok (.aload_n 0, 1) := by decide +kernel
theorem d_Deeds_turtleWord_280 : decode b_Deeds_turtleWord 280 = .ok (.getfield 34, 3) := by decide +kernel
theorem d_Deeds_turtleWord_283 : decode b_Deeds_turtleWord 283 = .ok (.getfield 121, 3) := by decide +kernel
theorem d_Deeds_turtleWord_286 : decode b_Deeds_turtleWord 286 = .ok (.invokestatic 127, 3) := by decide +kernel
theorem d_Deeds_turtleWord_289 : decode b_Deeds_turtleWord 289 = .ok (.ireturn, 1) := by decide +kernel
theorem d_Deeds_turtleWord_290 : decode b_Deeds_turtleWord 290 = .ok (.aload_n 0, 1) := by decide +kernel
theorem d_Deeds_turtleWord_291 : decode b_Deeds_turtleWord 291 = .ok (.getfield 34, 3) := by decide +kernel
theorem d_Deeds_turtleWord_294 : decode b_Deeds_turtleWord 294 = .ok (.invokevirtual 136, 3) := by decide +kernel
theorem d_Deeds_turtleWord_297 : decode b_Deeds_turtleWord 297 = .ok (.invokestatic 127, 3) := by decide +kernel
theorem d_Deeds_turtleWord_300 : decode b_Deeds_turtleWord 300 = .ok (.ireturn, 1) := by decide +kernel
theorem d_Deeds_turtleWord_301 : decode b_Deeds_turtleWord 301 = .ok (.aload_n 0, 1) := by decide +kernel
theorem d_Deeds_turtleWord_302 : decode b_Deeds_turtleWord 302 = .ok (.iload_n 2, 1) := by decide +kernel
theorem d_Deeds_turtleWord_303 : decode b_Deeds_turtleWord 303 = .ok (.iload_n 3, 1) := by decide +kernel
theorem d_Deeds_turtleWord_304 : decode b_Deeds_turtleWord 304 = .ok (.invokevirtual 139, 3) := by decide +kernel
theorem d_Deeds_turtleWord_307 : decode b_Deeds_turtleWord 307 = .ok (.ireturn, 1) := by decide +kernel
theorem d_Deeds_turtleWord_308 : decode b_Deeds_turtleWord 308 = .ok (.ldc 142, 2) := by decide +kernel
theorem d_Deeds_turtleWord_310 : decode b_Deeds_turtleWord 310 = .ok (.ireturn, 1) := by decide +kernel
theorem lk_Deeds_90 : Cond.methodLink "TurtleWorld$Deeds" 90 ⟨"TurtleWorld$Turtles", "forward", "(I)I"⟩ ∈ tw_T := tw_i6 12 (by decide +kernel) (by decide +kernel)
theorem hd_Turtles_forward : y_Turtles_forward.cls ≠ "java/lang/invoke/MethodHandle" ∧ y_Turtles_forward.cls ≠ "java/lang/invoke/VarHandle" ∧ (parseMethodDescriptor y_Turtles_forward.desc).map (fun d => d.parameters.length) = some 1 := by decide +kernel
theorem in_Turtles_forward : Cond.instanceMethod ⟨"TurtleWorld$Turtles", "forward", "(I)I"⟩ ∈ tw_T := tw_i6 13 (by decide +kernel) (by decide +kernel)
theorem sel_Turtles_forward : Cond.selects "TurtleWorld$Turtles" ⟨"TurtleWorld$Turtles", "forward", "(I)I"⟩ ⟨"TurtleWorld$Turtles", "forward", "(I)I"⟩ ∈ tw_T := tw_i6 14 (by decide +kernel) (by decide +kernel)
theorem lk_Deeds_95 : Cond.methodLink "TurtleWorld$Deeds" 95 ⟨"TurtleWorld$Turtles", "turnBy", "(I)I"⟩ ∈ tw_T := tw_i6 69 (by decide +kernel) (by decide +kernel)
theorem hd_Turtles_turnBy : y_Turtles_turnBy.cls ≠ "java/lang/invoke/MethodHandle" ∧ y_Turtles_turnBy.cls ≠ "java/lang/invoke/VarHandle" ∧ (parseMethodDescriptor y_Turtles_turnBy.desc).map (fun d => d.parameters.length) = some 1 := by decide +kernel
theorem in_Turtles_turnBy : Cond.instanceMethod ⟨"TurtleWorld$Turtles", "turnBy", "(I)I"⟩ ∈ tw_T := tw_i6 70 (by decide +kernel) (by decide +kernel)
theorem sel_Turtles_turnBy : Cond.selects "TurtleWorld$Turtles" ⟨"TurtleWorld$Turtles", "turnBy", "(I)I"⟩ ⟨"TurtleWorld$Turtles", "turnBy", "(I)I"⟩ ∈ tw_T := tw_i6 71 (by decide +kernel) (by decide +kernel)
theorem lk_Deeds_98 : Cond.methodLink "TurtleWorld$Deeds" 98 ⟨"TurtleWorld$Turtles", "turnTo", "(II)I"⟩ ∈ tw_T := tw_i6 85 (by decide +kernel) (by decide +kernel)
theorem lk_Deeds_101 : Cond.methodLink "TurtleWorld$Deeds" 101 ⟨"TurtleWorld$Turtles", "lower", "(Z)I"⟩ ∈ tw_T := tw_i6 86 (by decide +kernel) (by decide +kernel)
theorem hd_Turtles_lower : y_Turtles_lower.cls ≠ "java/lang/invoke/MethodHandle" ∧ y_Turtles_lower.cls ≠ "java/lang/invoke/VarHandle" ∧ (parseMethodDescriptor y_Turtles_lower.desc).map (fun d => d.parameters.length) = some 1 := by decide +kernel
theorem in_Turtles_lower : Cond.instanceMethod ⟨"TurtleWorld$Turtles", "lower", "(Z)I"⟩ ∈ tw_T := tw_i6 87 (by decide +kernel) (by decide +kernel)
theorem sel_Turtles_lower : Cond.selects "TurtleWorld$Turtles" ⟨"TurtleWorld$Turtles", "lower", "(Z)I"⟩ ⟨"TurtleWorld$Turtles", "lower", "(Z)I"⟩ ∈ tw_T := tw_i6 88 (by decide +kernel) (by decide +kernel)
theorem lk_Deeds_105 : Cond.methodLink "TurtleWorld$Deeds" 105 ⟨"TurtleWorld$Turtles", "takePen", "(I)I"⟩ ∈ tw_T := tw_i6 90 (by decide +kernel) (by decide +kernel)
theorem hd_Turtles_takePen : y_Turtles_takePen.cls ≠ "java/lang/invoke/MethodHandle" ∧ y_Turtles_takePen.cls ≠ "java/lang/invoke/VarHandle" ∧ (parseMethodDescriptor y_Turtles_takePen.desc).map (fun d => d.parameters.length) = some 1 := by decide +kernel
theorem in_Turtles_takePen : Cond.instanceMethod ⟨"TurtleWorld$Turtles", "takePen", "(I)I"⟩ ∈ tw_T := tw_i6 91 (by decide +kernel) (by decide +kernel)
theorem sel_Turtles_takePen : Cond.selects "TurtleWorld$Turtles" ⟨"TurtleWorld$Turtles", "takePen", "(I)I"⟩ ⟨"TurtleWorld$Turtles", "takePen", "(I)I"⟩ ∈ tw_T := tw_i6 92 (by decide +kernel) (by decide +kernel)
theorem lk_Deeds_108 : Cond.methodLink "TurtleWorld$Deeds" 108 ⟨"TurtleWorld$Turtles", "goHome", "()I"⟩ ∈ tw_T := tw_i6 94 (by decide +kernel) (by decide +kernel)
theorem hd_Turtles_goHome : y_Turtles_goHome.cls ≠ "java/lang/invoke/MethodHandle" ∧ y_Turtles_goHome.cls ≠ "java/lang/invoke/VarHandle" ∧ (parseMethodDescriptor y_Turtles_goHome.desc).map (fun d => d.parameters.length) = some 0 := by decide +kernel
theorem in_Turtles_goHome : Cond.instanceMethod ⟨"TurtleWorld$Turtles", "goHome", "()I"⟩ ∈ tw_T := tw_i6 95 (by decide +kernel) (by decide +kernel)
theorem sel_Turtles_goHome : Cond.selects "TurtleWorld$Turtles" ⟨"TurtleWorld$Turtles", "goHome", "()I"⟩ ⟨"TurtleWorld$Turtles", "goHome", "()I"⟩ ∈ tw_T := tw_i6 96 (by decide +kernel) (by decide +kernel)
theorem lk_Deeds_112 : Cond.methodLink "TurtleWorld$Deeds" 112 ⟨"TurtleWorld$Turtles", "putAt", "(II)I"⟩ ∈ tw_T := tw_i6 102 (by decide +kernel) (by decide +kernel)
theorem lk_Deeds_115 : Cond.methodLink "TurtleWorld$Deeds" 115 ⟨"TurtleWorld$Turtles", "wipe", "()I"⟩ ∈ tw_T := tw_i6 103 (by decide +kernel) (by decide +kernel)
theorem hd_Turtles_wipe : y_Turtles_wipe.cls ≠ "java/lang/invoke/MethodHandle" ∧ y_Turtles_wipe.cls ≠ "java/lang/invoke/VarHandle" ∧ (parseMethodDescriptor y_Turtles_wipe.desc).map (fun d => d.parameters.length) = some 0 := by decide +kernel
theorem in_Turtles_wipe : Cond.instanceMethod ⟨"TurtleWorld$Turtles", "wipe", "()I"⟩ ∈ tw_T := tw_i6 104 (by decide +kernel) (by decide +kernel)
theorem sel_Turtles_wipe : Cond.selects "TurtleWorld$Turtles" ⟨"TurtleWorld$Turtles", "wipe", "()I"⟩ ⟨"TurtleWorld$Turtles", "wipe", "()I"⟩ ∈ tw_T := tw_i6 105 (by decide +kernel) (by decide +kernel)
theorem lk_Deeds_118 : Cond.methodLink "TurtleWorld$Deeds" 118 ⟨"TurtleWorld$Turtles", "mean", "(I)I"⟩ ∈ tw_T := tw_i6 110 (by decide +kernel) (by decide +kernel)
theorem lk_Deeds_121 : Cond.fieldLink "TurtleWorld$Deeds" 121 "TurtleWorld$Turtles" "told" "I" ∈ tw_T := tw_i2 89 (by decide +kernel) (by decide +kernel)
theorem lk_Deeds_124 : Cond.methodLink "TurtleWorld$Deeds" 124 ⟨"TurtleWorld$Turtles", "part", "(II)I"⟩ ∈ tw_T := tw_i6 114 (by decide +kernel) (by decide +kernel)
theorem lk_Deeds_130 : Cond.methodLink "TurtleWorld$Deeds" 130 ⟨"TurtleWorld$Turtles", "floorOf", "(I)I"⟩ ∈ tw_T := tw_i6 116 (by decide +kernel) (by decide +kernel)
theorem hd_Turtles_floorOf : y_Turtles_floorOf.cls ≠ "java/lang/invoke/MethodHandle" ∧ y_Turtles_floorOf.cls ≠ "java/lang/invoke/VarHandle" ∧ (parseMethodDescriptor y_Turtles_floorOf.desc).map (fun d => d.parameters.length) = some 1 := by decide +kernel
theorem in_Turtles_floorOf : Cond.instanceMethod ⟨"TurtleWorld$Turtles", "floorOf", "(I)I"⟩ ∈ tw_T := tw_i6 117 (by decide +kernel) (by decide +kernel)
theorem sel_Turtles_floorOf : Cond.selects "TurtleWorld$Turtles" ⟨"TurtleWorld$Turtles", "floorOf", "(I)I"⟩ ⟨"TurtleWorld$Turtles", "floorOf", "(I)I"⟩ ∈ tw_T := tw_i6 118 (by decide +kernel) (by decide +kernel)
theorem lk_Deeds_133 : Cond.methodLink "TurtleWorld$Deeds" 133 ⟨"TurtleWorld$Turtles", "colour", "()I"⟩ ∈ tw_T := tw_i6 120 (by decide +kernel) (by decide +kernel)
theorem hd_Turtles_colour : y_Turtles_colour.cls ≠ "java/lang/invoke/MethodHandle" ∧ y_Turtles_colour.cls ≠ "java/lang/invoke/VarHandle" ∧ (parseMethodDescriptor y_Turtles_colour.desc).map (fun d => d.parameters.length) = some 0 := by decide +kernel
theorem in_Turtles_colour : Cond.instanceMethod ⟨"TurtleWorld$Turtles", "colour", "()I"⟩ ∈ tw_T := tw_i6 121 (by decide +kernel) (by decide +kernel)
theorem sel_Turtles_colour : Cond.selects "TurtleWorld$Turtles" ⟨"TurtleWorld$Turtles", "colour", "()I"⟩ ⟨"TurtleWorld$Turtles", "colour", "()I"⟩ ∈ tw_T := tw_i6 122 (by decide +kernel) (by decide +kernel)
theorem lk_Deeds_136 : Cond.methodLink "TurtleWorld$Deeds" 136 ⟨"TurtleWorld$Turtles", "colourBelow", "()I"⟩ ∈ tw_T := tw_i6 124 (by decide +kernel) (by decide +kernel)
theorem hd_Turtles_colourBelow : y_Turtles_colourBelow.cls ≠ "java/lang/invoke/MethodHandle" ∧ y_Turtles_colourBelow.cls ≠ "java/lang/invoke/VarHandle" ∧ (parseMethodDescriptor y_Turtles_colourBelow.desc).map (fun d => d.parameters.length) = some 0 := by decide +kernel
theorem in_Turtles_colourBelow : Cond.instanceMethod ⟨"TurtleWorld$Turtles", "colourBelow", "()I"⟩ ∈ tw_T := tw_i6 125 (by decide +kernel) (by decide +kernel)
theorem sel_Turtles_colourBelow : Cond.selects "TurtleWorld$Turtles" ⟨"TurtleWorld$Turtles", "colourBelow", "()I"⟩ ⟨"TurtleWorld$Turtles", "colourBelow", "()I"⟩ ∈ tw_T := tw_i6 126 (by decide +kernel) (by decide +kernel)
theorem lk_Deeds_139 : Cond.methodLink "TurtleWorld$Deeds" 139 ⟨"TurtleWorld$Deeds", "same", "(II)I"⟩ ∈ tw_T := tw_i6 131 (by decide +kernel) (by decide +kernel)
theorem hd_Deeds_same : y_Deeds_same.cls ≠ "java/lang/invoke/MethodHandle" ∧ y_Deeds_same.cls ≠ "java/lang/invoke/VarHandle" ∧ (parseMethodDescriptor y_Deeds_same.desc).map (fun d => d.parameters.length) = some 2 := by decide +kernel
theorem in_Deeds_same : Cond.instanceMethod ⟨"TurtleWorld$Deeds", "same", "(II)I"⟩ ∈ tw_T := tw_i6 133 (by decide +kernel) (by decide +kernel)
theorem sel_Deeds_same : Cond.selects "TurtleWorld$Deeds" ⟨"TurtleWorld$Deeds", "same", "(II)I"⟩ ⟨"TurtleWorld$Deeds", "same", "(II)I"⟩ ∈ tw_T := tw_inS 59 (by decide +kernel) (by decide +kernel)
theorem d_Deeds_valueWord_0 : decode b_Deeds_valueWord 0 = .ok (.aload_n 0, 1) := by decide +kernel
theorem d_Deeds_valueWord_1 : decode b_Deeds_valueWord 1 = .ok (.getfield 22, 3) := by decide +kernel
theorem d_Deeds_valueWord_4 : decode b_Deeds_valueWord 4 = .ok (.iconst 0, 1) := by decide +kernel
theorem d_Deeds_valueWord_5 : decode b_Deeds_valueWord 5 = .ok (.invokevirtual 62, 3) := by decide +kernel
theorem d_Deeds_valueWord_8 : decode b_Deeds_valueWord 8 = .ok (.istore_n 2, 1) := by decide +kernel
theorem d_Deeds_valueWord_9 : decode b_Deeds_valueWord 9 = .ok (.aload_n 0, 1) := by decide +kernel
theorem d_Deeds_valueWord_10 : decode b_Deeds_valueWord 10 = .ok (.getfield 22, 3) := by decide +kernel
theorem d_Deeds_valueWord_13 : decode b_Deeds_valueWord 13 = .ok (.iconst 1, 1) := by decide +kernel
theorem d_Deeds_valueWord_14 : decode b_Deeds_valueWord 14 = .ok (.invokevirtual 62, 3) := by decide +kernel
theorem d_Deeds_valueWord_17 : decode b_Deeds_valueWord 17 = .ok (.istore_n 3, 1) := by decide +kernel
theorem d_Deeds_valueWord_18 : decode b_Deeds_valueWord 18 = .ok (.iload_n 1, 1) := by decide +kernel
theorem d_Deeds_valueWord_19 : decode b_Deeds_valueWord 19 = .ok (.tableswitch 325 32 49 #[85, 102, 114, 126, 138, 161, 185, 192, 206, 214, 231, 240, 249, 258, 289, 298, 312, 318], 85) := by decide +kernel
theorem d_Deeds_valueWord_104 : decode b_Deeds_valueWord 104 = .ok (.aload_n 0, 1) := by decide +kernel
theorem d_Deeds_valueWord_105 : decode b_Deeds_valueWord 105 = .ok (.getfield 15, 3) := by decide +kernel
theorem d_Deeds_valueWord_108 : decode b_Deeds_valueWord 108 = .ok (.aload_n 0, 1) := by decide +kernel
theorem d_Deeds_valueWord_109 : decode b_Deeds_valueWord 109 = .ok (.getfield 15, 3) := by decide +kernel
theorem d_Deeds_valueWord_112 : decode b_Deeds_valueWord 112 = .ok (.iload_n 2, 1) := by decide +kernel
theorem d_Deeds_valueWord_113 : decode b_Deeds_valueWord 113 = .ok (.iload_n 3, 1) := by decide +kernel
theorem d_Deeds_valueWord_114 : decode b_Deeds_valueWord 114 = .ok (.invokevirtual 170, 3) := by decide +kernel
theorem d_Deeds_valueWord_117 : decode b_Deeds_valueWord 117 = .ok (.invokevirtual 150, 3) := by decide +kernel
theorem d_Deeds_valueWord_120 : decode b_Deeds_valueWord 120 = .ok (.ireturn, 1) := by decide +kernel
theorem d_Deeds_valueWord_121 : decode b_Deeds_valueWord 121 = .ok (.aload_n 0, 1) := by decide +kernel
theorem d_Deeds_valueWord_122 : decode b_Deeds_valueWord 122 = .ok (.getfield 15, 3) := by decide +kernel
theorem d_Deeds_valueWord_125 : decode b_Deeds_valueWord 125 = .ok (.iload_n 2, 1) := by decide +kernel
theorem d_Deeds_valueWord_126 : decode b_Deeds_valueWord 126 = .ok (.invokestatic 75, 3) := by decide +kernel
theorem d_Deeds_valueWord_129 : decode b_Deeds_valueWord 129 = .ok (.invokevirtual 150, 3) := by decide +kernel
theorem d_Deeds_valueWord_132 : decode b_Deeds_valueWord 132 = .ok (.ireturn, 1) := by decide +kernel
theorem d_Deeds_valueWord_133 : decode b_Deeds_valueWord 133 = .ok (.aload_n 0, 1) := by decide +kernel
theorem d_Deeds_valueWord_134 : decode b_Deeds_valueWord 134 = .ok (.getfield 15, 3) := by decide +kernel
theorem d_Deeds_valueWord_137 : decode b_Deeds_valueWord 137 = .ok (.iload_n 2, 1) := by decide +kernel
theorem d_Deeds_valueWord_138 : decode b_Deeds_valueWord 138 = .ok (.invokestatic 78, 3) := by decide +kernel
theorem d_Deeds_valueWord_141 : decode b_Deeds_valueWord 141 = .ok (.invokevirtual 150, 3) := by decide +kernel
theorem d_Deeds_valueWord_144 : decode b_Deeds_valueWord 144 = .ok (.ireturn, 1) := by decide +kernel
theorem d_Deeds_valueWord_145 : decode b_Deeds_valueWord 145 = .ok (.aload_n 0, 1) := by decide +kernel
theorem d_Deeds_valueWord_146 : decode b_Deeds_valueWord 146 = .ok (.getfield 15, 3) := by decide +kernel
theorem d_Deeds_valueWord_149 : decode b_Deeds_valueWord 149 = .ok (.iload_n 2, 1) := by decide +kernel
theorem d_Deeds_valueWord_150 : decode b_Deeds_valueWord 150 = .ok (.invokestatic 71, 3) := by decide +kernel
theorem d_Deeds_valueWord_153 : decode b_Deeds_valueWord 153 = .ok (.invokevirtual 150, 3) := by decide +kernel
theorem d_Deeds_valueWord_156 : decode b_Deeds_valueWord 156 = .ok (.ireturn, 1) := by decide +kernel
theorem d_Deeds_valueWord_157 : decode b_Deeds_valueWord 157 = .ok (.iload_n 2, 1) := by decide +kernel
theorem d_Deeds_valueWord_158 : decode b_Deeds_valueWord 158 = .ok (.invokestatic 75, 3) := by decide +kernel
theorem d_Deeds_valueWord_161 : decode b_Deeds_valueWord 161 = .ok (.ifCond .eq 14, 3) := by decide +kernel
theorem d_Deeds_valueWord_164 : decode b_Deeds_valueWord 164 = .ok (.aload_n 0, 1) := by decide +kernel
theorem d_Deeds_valueWord_165 : decode b_Deeds_valueWord 165 = .ok (.getfield 15, 3) := by decide +kernel
theorem d_Deeds_valueWord_168 : decode b_Deeds_valueWord 168 = .ok (.iload_n 2, 1) := by decide +kernel
theorem d_Deeds_valueWord_169 : decode b_Deeds_valueWord 169 = .ok (.invokevirtual 173, 3) := by decide +kernel
theorem d_Deeds_valueWord_172 : decode b_Deeds_valueWord 172 = .ok (.goto 4, 3) := by decide +kernel
theorem d_Deeds_valueWord_175 : decode b_Deeds_valueWord 175 = .ok (.iconst 1, 1) := by decide +kernel
theorem d_Deeds_valueWord_176 : decode b_Deeds_valueWord 176 = .ok (.invokestatic 127, 3) := by decide +kernel
theorem d_Deeds_valueWord_179 : decode b_Deeds_valueWord 179 = .ok (.ireturn, 1) := by decide +kernel
theorem d_Deeds_valueWord_180 : decode b_Deeds_valueWord 180 = .ok (.aload_n 0, 1) := by decide +kernel
theorem d_Deeds_valueWord_181 : decode b_Deeds_valueWord 181 = .ok (.getfield 15, 3) := by decide +kernel
theorem d_Deeds_valueWord_184 : decode b_Deeds_valueWord 184 = .ok (.aload_n 0, 1) := by decide +kernel
theorem d_Deeds_valueWord_185 : decode b_Deeds_valueWord 185 = .ok (.getfield 15, 3) := by decide +kernel
theorem d_Deeds_valueWord_188 : decode b_Deeds_valueWord 188 = .ok (.iload_n 2, 1) := by decide +kernel
theorem d_Deeds_valueWord_189 : decode b_Deeds_valueWord 189 = .ok (.invokevirtual 173, 3) := by decide +kernel
theorem d_Deeds_valueWord_192 : decode b_Deeds_valueWord 192 = .ok (.ifCond .ne 7, 3) := by decide +kernel
theorem d_Deeds_valueWord_195 : decode b_Deeds_valueWord 195 = .ok (.iconst 1, 1) := by decide +kernel
theorem d_Deeds_valueWord_196 : decode b_Deeds_valueWord 196 = .ok (.goto 4, 3) := by decide +kernel
theorem d_Deeds_valueWord_199 : decode b_Deeds_valueWord 199 = .ok (.iconst 0, 1) := by decide +kernel
theorem d_Deeds_valueWord_200 : decode b_Deeds_valueWord 200 = .ok (.invokevirtual 150, 3) := by decide +kernel
theorem d_Deeds_valueWord_203 : decode b_Deeds_valueWord 203 = .ok (.ireturn, 1) := by decide +kernel
theorem d_Deeds_valueWord_204 : decode b_Deeds_valueWord 204 = .ok (.aload_n 0, 1) := by decide +kernel
theorem d_Deeds_valueWord_205 : decode b_Deeds_valueWord 205 = .ok (.iconst 1, 1) := by decide +kernel
theorem d_Deeds_valueWord_206 : decode b_Deeds_valueWord 206 = .ok (.iload_n 2, 1) := by decide +kernel
theorem d_Deeds_valueWord_207 : decode b_Deeds_valueWord 207 = .ok (.invokevirtual 176, 3) := by decide +kernel
theorem d_Deeds_valueWord_210 : decode b_Deeds_valueWord 210 = .ok (.ireturn, 1) := by decide +kernel
theorem d_Deeds_valueWord_211 : decode b_Deeds_valueWord 211 = .ok (.aload_n 0, 1) := by decide +kernel
theorem d_Deeds_valueWord_212 : decode b_Deeds_valueWord 212 = .ok (.aload_n 0, 1) := by decide +kernel
theorem d_Deeds_valueWord_213 : decode b_Deeds_valueWord 213 = .ok (.getfield 15, 3) := by decide +kernel
theorem d_Deeds_valueWord_216 : decode b_Deeds_valueWord 216 = .ok (.iload_n 2, 1) := by decide +kernel
theorem d_Deeds_valueWord_217 : decode b_Deeds_valueWord 217 = .ok (.invokevirtual 173, 3) := by decide +kernel
theorem d_Deeds_valueWord_220 : decode b_Deeds_valueWord 220 = .ok (.iload_n 2, 1) := by decide +kernel
theorem d_Deeds_valueWord_221 : decode b_Deeds_valueWord 221 = .ok (.invokevirtual 176, 3) := by decide +kernel
theorem d_Deeds_valueWord_224 : decode b_Deeds_valueWord 224 = .ok (.ireturn, 1) := by decide +kernel
theorem d_Deeds_valueWord_225 : decode b_Deeds_valueWord 225 = .ok (.aload_n 0, 1) := by decide +kernel
theorem d_Deeds_valueWord_226 : decode b_Deeds_valueWord 226 = .ok (.iload_n 2, 1) := by decide +kernel
theorem d_Deeds_valueWord_227 : decode b_Deeds_valueWord 227 = .ok (.iconst 0, 1) := by decide +kernel
theorem d_Deeds_valueWord_228 : decode b_Deeds_valueWord 228 = .ok (.iconst 1, 1) := by decide +kernel
theorem d_Deeds_valueWord_229 : decode b_Deeds_valueWord 229 = .ok (.invokevirtual 179, 3) := by decide +kernel
theorem d_Deeds_valueWord_232 : decode b_Deeds_valueWord 232 = .ok (.ireturn, 1) := by decide +kernel
theorem d_Deeds_valueWord_233 : decode b_Deeds_valueWord 233 = .ok (.aload_n 0, 1) := by decide +kernel
theorem d_Deeds_valueWord_234 : decode b_Deeds_valueWord 234 = .ok (.iload_n 2, 1) := by decide +kernel
theorem d_Deeds_valueWord_235 : decode b_Deeds_valueWord 235 = .ok (.aload_n 0, 1) := by decide +kernel
theorem d_Deeds_valueWord_236 : decode b_Deeds_valueWord 236 = .ok (.getfield 15, 3) := by decide +kernel
theorem d_Deeds_valueWord_239 : decode b_Deeds_valueWord 239 = .ok (.iload_n 2, 1) := by decide +kernel
theorem d_Deeds_valueWord_240 : decode b_Deeds_valueWord 240 = .ok (.invokevirtual 173, 3) := by decide +kernel
theorem d_Deeds_valueWord_243 : decode b_Deeds_valueWord 243 = .ok (.iconst 1, 1) := by decide +kernel
theorem d_Deeds_valueWord_244 : decode b_Deeds_valueWord 244 = .ok (.isub, 1) := by decide +kernel
theorem d_Deeds_valueWord_245 : decode b_Deeds_valueWord 245 = .ok (.iconst 0, 1) := by decide +kernel
theorem d_Deeds_valueWord_246 : decode b_Deeds_valueWord 246 = .ok (.invokevirtual 179, 3) := by decide +kernel
theorem d_Deeds_valueWord_249 : decode b_Deeds_valueWord 249 = .ok (.ireturn, 1) := by decide +kernel
theorem d_Deeds_valueWord_250 : decode b_Deeds_valueWord 250 = .ok (.aload_n 0, 1) := by decide +kernel
theorem d_Deeds_valueWord_251 : decode b_Deeds_valueWord 251 = .ok (.iload_n 2, 1) := by decide +kernel
theorem d_Deeds_valueWord_252 : decode b_Deeds_valueWord 252 = .ok (.iconst 1, 1) := by decide +kernel
theorem d_Deeds_valueWord_253 : decode b_Deeds_valueWord 253 = .ok (.ishr, 1) := by decide +kernel
theorem d_Deeds_valueWord_254 : decode b_Deeds_valueWord 254 = .ok (.iload_n 3, 1) := by decide +kernel
theorem d_Deeds_valueWord_255 : decode b_Deeds_valueWord 255 = .ok (.invokevirtual 176, 3) := by decide +kernel
theorem d_Deeds_valueWord_258 : decode b_Deeds_valueWord 258 = .ok (.ireturn, 1) := by decide +kernel
theorem d_Deeds_valueWord_259 : decode b_Deeds_valueWord 259 = .ok (.aload_n 0, 1) := by decide +kernel
theorem d_Deeds_valueWord_260 : decode b_Deeds_valueWord 260 = .ok (.iload_n 2, 1) := by decide +kernel
theorem d_Deeds_valueWord_261 : decode b_Deeds_valueWord 261 = .ok (.iconst 1, 1) := by decide +kernel
theorem d_Deeds_valueWord_262 : decode b_Deeds_valueWord 262 = .ok (.iload_n 3, 1) := by decide +kernel
theorem d_Deeds_valueWord_263 : decode b_Deeds_valueWord 263 = .ok (.iconst 0, 1) := by decide +kernel
theorem d_Deeds_valueWord_264 : decode b_Deeds_valueWord 264 = .ok (.invokevirtual 183, 3) := by decide +kernel
theorem d_Deeds_valueWord_267 : decode b_Deeds_valueWord 267 = .ok (.ireturn, 1) := by decide +kernel
theorem d_Deeds_valueWord_268 : decode b_Deeds_valueWord 268 = .ok (.aload_n 0, 1) := by decide +kernel
theorem d_Deeds_valueWord_269 : decode b_Deeds_valueWord 269 = .ok (.iload_n 3, 1) := by decide +kernel
theorem d_Deeds_valueWord_270 : decode b_Deeds_valueWord 270 = .ok (.iconst 0, 1) := by decide +kernel
theorem d_Deeds_valueWord_271 : decode b_Deeds_valueWord 271 = .ok (.iload_n 2, 1) := by decide +kernel
theorem d_Deeds_valueWord_272 : decode b_Deeds_valueWord 272 = .ok (.iconst 1, 1) := by decide +kernel
theorem d_Deeds_valueWord_273 : decode b_Deeds_valueWord 273 = .ok (.invokevirtual 183, 3) := by decide +kernel
theorem d_Deeds_valueWord_276 : decode b_Deeds_valueWord 276 = .ok (.ireturn, 1) := by decide +kernel
theorem d_Deeds_valueWord_277 : decode b_Deeds_valueWord 277 = .ok (.aload_n 0, 1) := by decide +kernel
theorem d_Deeds_valueWord_278 : decode b_Deeds_valueWord 278 = .ok (.iload_n 2, 1) := by decide +kernel
theorem d_Deeds_valueWord_279 : decode b_Deeds_valueWord 279 = .ok (.iload_n 2, 1) := by decide +kernel
theorem d_Deeds_valueWord_280 : decode b_Deeds_valueWord 280 = .ok (.invokestatic 75, 3) := by decide +kernel
theorem d_Deeds_valueWord_283 : decode b_Deeds_valueWord 283 = .ok (.ifCond .ne 7, 3) := by decide +kernel
theorem d_Deeds_valueWord_286 : decode b_Deeds_valueWord 286 = .ok (.iconst 1, 1) := by decide +kernel
theorem d_Deeds_valueWord_287 : decode b_Deeds_valueWord 287 = .ok (.goto 4, 3) := by decide +kernel
theorem d_Deeds_valueWord_290 : decode b_Deeds_valueWord 290 = .ok (.iconst 0, 1) := by decide +kernel
theorem d_Deeds_valueWord_291 : decode b_Deeds_valueWord 291 = .ok (.iload_n 3, 1) := by decide +kernel
theorem d_Deeds_valueWord_292 : decode b_Deeds_valueWord 292 = .ok (.iload_n 3, 1) := by decide +kernel
theorem d_Deeds_valueWord_293 : decode b_Deeds_valueWord 293 = .ok (.invokestatic 75, 3) := by decide +kernel
theorem d_Deeds_valueWord_296 : decode b_Deeds_valueWord 296 = .ok (.ifCond .ne 7, 3) := by decide +kernel
theorem d_Deeds_valueWord_299 : decode b_Deeds_valueWord 299 = .ok (.iconst 1, 1) := by decide +kernel
theorem d_Deeds_valueWord_300 : decode b_Deeds_valueWord 300 = .ok (.goto 4, 3) := by decide +kernel
theorem d_Deeds_valueWord_303 : decode b_Deeds_valueWord 303 = .ok (.iconst 0, 1) := by decide +kernel
theorem d_Deeds_valueWord_304 : decode b_Deeds_valueWord 304 = .ok (.invokevirtual 183, 3) := by decide +kernel
theorem d_Deeds_valueWord_307 : decode b_Deeds_valueWord 307 = .ok (.ireturn, 1) := by decide +kernel
theorem d_Deeds_valueWord_308 : decode b_Deeds_valueWord 308 = .ok (.aload_n 0, 1) := by decide +kernel
theorem d_Deeds_valueWord_309 : decode b_Deeds_valueWord 309 = .ok (.iload_n 2, 1) := by decide +kernel
theorem d_Deeds_valueWord_310 : decode b_Deeds_valueWord 310 = .ok (.iconst 1, 1) := by decide +kernel
theorem d_Deeds_valueWord_311 : decode b_Deeds_valueWord 311 = .ok (.iload_n 3, 1) := by decide +kernel
theorem d_Deeds_valueWord_312 : decode b_Deeds_valueWord 312 = .ok (.iconst 1, 1) := by decide +kernel
theorem d_Deeds_valueWord_313 : decode b_Deeds_valueWord 313 = .ok (.invokevirtual 183, 3) := by decide +kernel
theorem d_Deeds_valueWord_316 : decode b_Deeds_valueWord 316 = .ok (.ireturn, 1) := by decide +kernel
theorem d_Deeds_valueWord_317 : decode b_Deeds_valueWord 317 = .ok (.aload_n 0, 1) := by decide +kernel
theorem d_Deeds_valueWord_318 : decode b_Deeds_valueWord 318 = .ok (.getfield 15, 3) := by decide +kernel
theorem d_Deeds_valueWord_321 : decode b_Deeds_valueWord 321 = .ok (.aload_n 0, 1) := by decide +kernel
theorem d_Deeds_valueWord_322 : decode b_Deeds_valueWord 322 = .ok (.iload_n 2, 1) := by decide +kernel
theorem d_Deeds_valueWord_323 : decode b_Deeds_valueWord 323 = .ok (.iload_n 3, 1) := by decide +kernel
theorem d_Deeds_valueWord_324 : decode b_Deeds_valueWord 324 = .ok (.invokevirtual 187, 3) := by decide +kernel
theorem d_Deeds_valueWord_327 : decode b_Deeds_valueWord 327 = .ok (.invokevirtual 150, 3) := by decide +kernel
theorem d_Deeds_valueWord_330 : decode b_Deeds_valueWord 330 = .ok (.ireturn, 1) := by decide +kernel
theorem d_Deeds_valueWord_331 : decode b_Deeds_valueWord 331 = .ok (.aload_n 0, 1) := by decide +kernel
theorem d_Deeds_valueWord_332 : decode b_Deeds_valueWord 332 = .ok (.iload_n 2, 1) := by decide +kernel
theorem d_Deeds_valueWord_333 : decode b_Deeds_valueWord 333 = .ok (.invokevirtual 190, 3) := by decide +kernel
theorem d_Deeds_valueWord_336 : decode b_Deeds_valueWord 336 = .ok (.ireturn, 1) := by decide +kernel
theorem d_Deeds_valueWord_337 : decode b_Deeds_valueWord 337 = .ok (.aload_n 0, 1) := by decide +kernel
theorem d_Deeds_valueWord_338 : decode b_Deeds_valueWord 338 = .ok (.iload_n 2, 1) := by decide +kernel
theorem d_Deeds_valueWord_339 : decode b_Deeds_valueWord 339 = .ok (.iload_n 3, 1) := by decide +kernel
theorem d_Deeds_valueWord_340 : decode b_Deeds_valueWord 340 = .ok (.invokevirtual 193, 3) := by decide +kernel
theorem d_Deeds_valueWord_343 : decode b_Deeds_valueWord 343 = .ok (.ireturn, 1) := by decide +kernel
theorem d_Deeds_valueWord_344 : decode b_Deeds_valueWord 344 = .ok (.ldc 142, 2) := by decide +kernel
theorem d_Deeds_valueWord_346 : decode b_Deeds_valueWord 346 = .ok (.ireturn, 1) := by decide +kernel
theorem lk_Deeds_176 : Cond.methodLink "TurtleWorld$Deeds" 176 ⟨"TurtleWorld$Deeds", "item", "(II)I"⟩ ∈ tw_T := tw_i6 182 (by decide +kernel) (by decide +kernel)
theorem hd_Deeds_item : y_Deeds_item.cls ≠ "java/lang/invoke/MethodHandle" ∧ y_Deeds_item.cls ≠ "java/lang/invoke/VarHandle" ∧ (parseMethodDescriptor y_Deeds_item.desc).map (fun d => d.parameters.length) = some 2 := by decide +kernel
theorem in_Deeds_item : Cond.instanceMethod ⟨"TurtleWorld$Deeds", "item", "(II)I"⟩ ∈ tw_T := tw_i6 184 (by decide +kernel) (by decide +kernel)
theorem sel_Deeds_item : Cond.selects "TurtleWorld$Deeds" ⟨"TurtleWorld$Deeds", "item", "(II)I"⟩ ⟨"TurtleWorld$Deeds", "item", "(II)I"⟩ ∈ tw_T := tw_inS 62 (by decide +kernel) (by decide +kernel)
theorem lk_Deeds_179 : Cond.methodLink "TurtleWorld$Deeds" 179 ⟨"TurtleWorld$Deeds", "without", "(III)I"⟩ ∈ tw_T := tw_i6 187 (by decide +kernel) (by decide +kernel)
theorem hd_Deeds_without : y_Deeds_without.cls ≠ "java/lang/invoke/MethodHandle" ∧ y_Deeds_without.cls ≠ "java/lang/invoke/VarHandle" ∧ (parseMethodDescriptor y_Deeds_without.desc).map (fun d => d.parameters.length) = some 3 := by decide +kernel
theorem in_Deeds_without : Cond.instanceMethod ⟨"TurtleWorld$Deeds", "without", "(III)I"⟩ ∈ tw_T := tw_i6 189 (by decide +kernel) (by decide +kernel)
theorem sel_Deeds_without : Cond.selects "TurtleWorld$Deeds" ⟨"TurtleWorld$Deeds", "without", "(III)I"⟩ ⟨"TurtleWorld$Deeds", "without", "(III)I"⟩ ∈ tw_T := tw_inS 63 (by decide +kernel) (by decide +kernel)
theorem lk_Deeds_183 : Cond.methodLink "TurtleWorld$Deeds" 183 ⟨"TurtleWorld$Deeds", "join", "(IZIZ)I"⟩ ∈ tw_T := tw_i6 203 (by decide +kernel) (by decide +kernel)
theorem hd_Deeds_join : y_Deeds_join.cls ≠ "java/lang/invoke/MethodHandle" ∧ y_Deeds_join.cls ≠ "java/lang/invoke/VarHandle" ∧ (parseMethodDescriptor y_Deeds_join.desc).map (fun d => d.parameters.length) = some 4 := by decide +kernel
theorem in_Deeds_join : Cond.instanceMethod ⟨"TurtleWorld$Deeds", "join", "(IZIZ)I"⟩ ∈ tw_T := tw_i6 205 (by decide +kernel) (by decide +kernel)
theorem sel_Deeds_join : Cond.selects "TurtleWorld$Deeds" ⟨"TurtleWorld$Deeds", "join", "(IZIZ)I"⟩ ⟨"TurtleWorld$Deeds", "join", "(IZIZ)I"⟩ ∈ tw_T := tw_inS 65 (by decide +kernel) (by decide +kernel)
theorem lk_Deeds_187 : Cond.methodLink "TurtleWorld$Deeds" 187 ⟨"TurtleWorld$Deeds", "isMember", "(II)Z"⟩ ∈ tw_T := tw_i6 207 (by decide +kernel) (by decide +kernel)
theorem hd_Deeds_isMember : y_Deeds_isMember.cls ≠ "java/lang/invoke/MethodHandle" ∧ y_Deeds_isMember.cls ≠ "java/lang/invoke/VarHandle" ∧ (parseMethodDescriptor y_Deeds_isMember.desc).map (fun d => d.parameters.length) = some 2 := by decide +kernel
theorem in_Deeds_isMember : Cond.instanceMethod ⟨"TurtleWorld$Deeds", "isMember", "(II)Z"⟩ ∈ tw_T := tw_i6 209 (by decide +kernel) (by decide +kernel)
theorem sel_Deeds_isMember : Cond.selects "TurtleWorld$Deeds" ⟨"TurtleWorld$Deeds", "isMember", "(II)Z"⟩ ⟨"TurtleWorld$Deeds", "isMember", "(II)Z"⟩ ∈ tw_T := tw_inS 66 (by decide +kernel) (by decide +kernel)
theorem lk_Deeds_190 : Cond.methodLink "TurtleWorld$Deeds" 190 ⟨"TurtleWorld$Deeds", "reverse", "(I)I"⟩ ∈ tw_T := tw_i6 211 (by decide +kernel) (by decide +kernel)
theorem hd_Deeds_reverse : y_Deeds_reverse.cls ≠ "java/lang/invoke/MethodHandle" ∧ y_Deeds_reverse.cls ≠ "java/lang/invoke/VarHandle" ∧ (parseMethodDescriptor y_Deeds_reverse.desc).map (fun d => d.parameters.length) = some 1 := by decide +kernel
theorem in_Deeds_reverse : Cond.instanceMethod ⟨"TurtleWorld$Deeds", "reverse", "(I)I"⟩ ∈ tw_T := tw_i6 213 (by decide +kernel) (by decide +kernel)
theorem sel_Deeds_reverse : Cond.selects "TurtleWorld$Deeds" ⟨"TurtleWorld$Deeds", "reverse", "(I)I"⟩ ⟨"TurtleWorld$Deeds", "reverse", "(I)I"⟩ ∈ tw_T := tw_inS 67 (by decide +kernel) (by decide +kernel)
theorem lk_Deeds_193 : Cond.methodLink "TurtleWorld$Deeds" 193 ⟨"TurtleWorld$Deeds", "joinLetters", "(II)I"⟩ ∈ tw_T := tw_i6 215 (by decide +kernel) (by decide +kernel)
theorem hd_Deeds_joinLetters : y_Deeds_joinLetters.cls ≠ "java/lang/invoke/MethodHandle" ∧ y_Deeds_joinLetters.cls ≠ "java/lang/invoke/VarHandle" ∧ (parseMethodDescriptor y_Deeds_joinLetters.desc).map (fun d => d.parameters.length) = some 2 := by decide +kernel
theorem in_Deeds_joinLetters : Cond.instanceMethod ⟨"TurtleWorld$Deeds", "joinLetters", "(II)I"⟩ ∈ tw_T := tw_i6 217 (by decide +kernel) (by decide +kernel)
theorem sel_Deeds_joinLetters : Cond.selects "TurtleWorld$Deeds" ⟨"TurtleWorld$Deeds", "joinLetters", "(II)I"⟩ ⟨"TurtleWorld$Deeds", "joinLetters", "(II)I"⟩ ∈ tw_T := tw_inS 68 (by decide +kernel) (by decide +kernel)
theorem d_Deeds_otherWord_0 : decode b_Deeds_otherWord 0 = .ok (.aload_n 0, 1) := by decide +kernel
theorem d_Deeds_otherWord_1 : decode b_Deeds_otherWord 1 = .ok (.getfield 22, 3) := by decide +kernel
theorem d_Deeds_otherWord_4 : decode b_Deeds_otherWord 4 = .ok (.iconst 0, 1) := by decide +kernel
theorem d_Deeds_otherWord_5 : decode b_Deeds_otherWord 5 = .ok (.invokevirtual 62, 3) := by decide +kernel
theorem d_Deeds_otherWord_8 : decode b_Deeds_otherWord 8 = .ok (.istore_n 2, 1) := by decide +kernel
theorem d_Deeds_otherWord_9 : decode b_Deeds_otherWord 9 = .ok (.aload_n 0, 1) := by decide +kernel
theorem d_Deeds_otherWord_10 : decode b_Deeds_otherWord 10 = .ok (.getfield 22, 3) := by decide +kernel
theorem d_Deeds_otherWord_13 : decode b_Deeds_otherWord 13 = .ok (.iconst 1, 1) := by decide +kernel
theorem d_Deeds_otherWord_14 : decode b_Deeds_otherWord 14 = .ok (.invokevirtual 62, 3) := by decide +kernel
theorem d_Deeds_otherWord_17 : decode b_Deeds_otherWord 17 = .ok (.istore_n 3, 1) := by decide +kernel
theorem d_Deeds_otherWord_18 : decode b_Deeds_otherWord 18 = .ok (.iload_n 1, 1) := by decide +kernel
theorem d_Deeds_otherWord_19 : decode b_Deeds_otherWord 19 = .ok (.tableswitch 147 50 59 #[53, 63, 69, 78, 104, 111, 117, 123, 131, 139], 53) := by decide +kernel
theorem d_Deeds_otherWord_72 : decode b_Deeds_otherWord 72 = .ok (.aload_n 0, 1) := by decide +kernel
theorem d_Deeds_otherWord_73 : decode b_Deeds_otherWord 73 = .ok (.getfield 26, 3) := by decide +kernel
theorem d_Deeds_otherWord_76 : decode b_Deeds_otherWord 76 = .ok (.iload_n 2, 1) := by decide +kernel
theorem d_Deeds_otherWord_77 : decode b_Deeds_otherWord 77 = .ok (.iload_n 3, 1) := by decide +kernel
theorem d_Deeds_otherWord_78 : decode b_Deeds_otherWord 78 = .ok (.invokevirtual 240, 3) := by decide +kernel
theorem d_Deeds_otherWord_81 : decode b_Deeds_otherWord 81 = .ok (.ireturn, 1) := by decide +kernel
theorem d_Deeds_otherWord_82 : decode b_Deeds_otherWord 82 = .ok (.aload_n 0, 1) := by decide +kernel
theorem d_Deeds_otherWord_83 : decode b_Deeds_otherWord 83 = .ok (.iload_n 2, 1) := by decide +kernel
theorem d_Deeds_otherWord_84 : decode b_Deeds_otherWord 84 = .ok (.invokevirtual 245, 3) := by decide +kernel
theorem d_Deeds_otherWord_87 : decode b_Deeds_otherWord 87 = .ok (.ireturn, 1) := by decide +kernel
theorem d_Deeds_otherWord_88 : decode b_Deeds_otherWord 88 = .ok (.aload_n 0, 1) := by decide +kernel
theorem d_Deeds_otherWord_89 : decode b_Deeds_otherWord 89 = .ok (.getfield 26, 3) := by decide +kernel
theorem d_Deeds_otherWord_92 : decode b_Deeds_otherWord 92 = .ok (.iload_n 2, 1) := by decide +kernel
theorem d_Deeds_otherWord_93 : decode b_Deeds_otherWord 93 = .ok (.invokevirtual 248, 3) := by decide +kernel
theorem d_Deeds_otherWord_96 : decode b_Deeds_otherWord 96 = .ok (.ireturn, 1) := by decide +kernel
theorem d_Deeds_otherWord_97 : decode b_Deeds_otherWord 97 = .ok (.aload_n 0, 1) := by decide +kernel
theorem d_Deeds_otherWord_98 : decode b_Deeds_otherWord 98 = .ok (.getfield 15, 3) := by decide +kernel
theorem d_Deeds_otherWord_101 : decode b_Deeds_otherWord 101 = .ok (.aload_n 0, 1) := by decide +kernel
theorem d_Deeds_otherWord_102 : decode b_Deeds_otherWord 102 = .ok (.getfield 26, 3) := by decide +kernel
theorem d_Deeds_otherWord_105 : decode b_Deeds_otherWord 105 = .ok (.iload_n 2, 1) := by decide +kernel
theorem d_Deeds_otherWord_106 : decode b_Deeds_otherWord 106 = .ok (.invokevirtual 248, 3) := by decide +kernel
theorem d_Deeds_otherWord_109 : decode b_Deeds_otherWord 109 = .ok (.ldc 251, 2) := by decide +kernel
theorem d_Deeds_otherWord_111 : decode b_Deeds_otherWord 111 = .ok (.if_icmp .eq 7, 3) := by decide +kernel
theorem d_Deeds_otherWord_114 : decode b_Deeds_otherWord 114 = .ok (.iconst 1, 1) := by decide +kernel
theorem d_Deeds_otherWord_115 : decode b_Deeds_otherWord 115 = .ok (.goto 4, 3) := by decide +kernel
theorem d_Deeds_otherWord_118 : decode b_Deeds_otherWord 118 = .ok (.iconst 0, 1) := by decide +kernel
theorem d_Deeds_otherWord_119 : decode b_Deeds_otherWord 119 = .ok (.invokevirtual 150, 3) := by decide +kernel
theorem d_Deeds_otherWord_122 : decode b_Deeds_otherWord 122 = .ok (.ireturn, 1) := by decide +kernel
theorem d_Deeds_otherWord_123 : decode b_Deeds_otherWord 123 = .ok (.aload_n 0, 1) := by decide +kernel
theorem d_Deeds_otherWord_124 : decode b_Deeds_otherWord 124 = .ok (.iload_n 2, 1) := by decide +kernel
theorem d_Deeds_otherWord_125 : decode b_Deeds_otherWord 125 = .ok (.iload_n 3, 1) := by decide +kernel
theorem d_Deeds_otherWord_126 : decode b_Deeds_otherWord 126 = .ok (.invokevirtual 252, 3) := by decide +kernel
theorem d_Deeds_otherWord_129 : decode b_Deeds_otherWord 129 = .ok (.ireturn, 1) := by decide +kernel
theorem d_Deeds_otherWord_130 : decode b_Deeds_otherWord 130 = .ok (.aload_n 0, 1) := by decide +kernel
theorem d_Deeds_otherWord_131 : decode b_Deeds_otherWord 131 = .ok (.iload_n 2, 1) := by decide +kernel
theorem d_Deeds_otherWord_132 : decode b_Deeds_otherWord 132 = .ok (.invokevirtual 255, 3) := by decide +kernel
theorem d_Deeds_otherWord_135 : decode b_Deeds_otherWord 135 = .ok (.ireturn, 1) := by decide +kernel
theorem d_Deeds_otherWord_136 : decode b_Deeds_otherWord 136 = .ok (.aload_n 0, 1) := by decide +kernel
theorem d_Deeds_otherWord_137 : decode b_Deeds_otherWord 137 = .ok (.iload_n 2, 1) := by decide +kernel
theorem d_Deeds_otherWord_138 : decode b_Deeds_otherWord 138 = .ok (.invokevirtual 256, 3) := by decide +kernel
theorem d_Deeds_otherWord_141 : decode b_Deeds_otherWord 141 = .ok (.ireturn, 1) := by decide +kernel
theorem d_Deeds_otherWord_142 : decode b_Deeds_otherWord 142 = .ok (.aload_n 0, 1) := by decide +kernel
theorem d_Deeds_otherWord_143 : decode b_Deeds_otherWord 143 = .ok (.iload_n 2, 1) := by decide +kernel
theorem d_Deeds_otherWord_144 : decode b_Deeds_otherWord 144 = .ok (.iconst 1, 1) := by decide +kernel
theorem d_Deeds_otherWord_145 : decode b_Deeds_otherWord 145 = .ok (.iconst 1, 1) := by decide +kernel
theorem d_Deeds_otherWord_146 : decode b_Deeds_otherWord 146 = .ok (.invokevirtual 258, 3) := by decide +kernel
theorem d_Deeds_otherWord_149 : decode b_Deeds_otherWord 149 = .ok (.ireturn, 1) := by decide +kernel
theorem d_Deeds_otherWord_150 : decode b_Deeds_otherWord 150 = .ok (.aload_n 0, 1) := by decide +kernel
theorem d_Deeds_otherWord_151 : decode b_Deeds_otherWord 151 = .ok (.iload_n 2, 1) := by decide +kernel
theorem d_Deeds_otherWord_152 : decode b_Deeds_otherWord 152 = .ok (.iconst 0, 1) := by decide +kernel
theorem d_Deeds_otherWord_153 : decode b_Deeds_otherWord 153 = .ok (.iconst 1, 1) := by decide +kernel
theorem d_Deeds_otherWord_154 : decode b_Deeds_otherWord 154 = .ok (.invokevirtual 258, 3) := by decide +kernel
theorem d_Deeds_otherWord_157 : decode b_Deeds_otherWord 157 = .ok (.ireturn, 1) := by decide +kernel
theorem d_Deeds_otherWord_158 : decode b_Deeds_otherWord 158 = .ok (.aload_n 0, 1) := by decide +kernel
theorem d_Deeds_otherWord_159 : decode b_Deeds_otherWord 159 = .ok (.iload_n 2, 1) := by decide +kernel
theorem d_Deeds_otherWord_160 : decode b_Deeds_otherWord 160 = .ok (.iconst 1, 1) := by decide +kernel
theorem d_Deeds_otherWord_161 : decode b_Deeds_otherWord 161 = .ok (.iconst 0, 1) := by decide +kernel
theorem d_Deeds_otherWord_162 : decode b_Deeds_otherWord 162 = .ok (.invokevirtual 258, 3) := by decide +kernel
theorem d_Deeds_otherWord_165 : decode b_Deeds_otherWord 165 = .ok (.ireturn, 1) := by decide +kernel
theorem d_Deeds_otherWord_166 : decode b_Deeds_otherWord 166 = .ok (.ldc 142, 2) := by decide +kernel
theorem d_Deeds_otherWord_168 : decode b_Deeds_otherWord 168 = .ok (.ireturn, 1) := by decide +kernel
theorem lk_Deeds_240 : Cond.methodLink "TurtleWorld$Deeds" 240 ⟨"TurtleWorld$Names", "make", "(II)I"⟩ ∈ tw_T := tw_i7 10 (by decide +kernel) (by decide +kernel)
theorem hd_Names_make : y_Names_make.cls ≠ "java/lang/invoke/MethodHandle" ∧ y_Names_make.cls ≠ "java/lang/invoke/VarHandle" ∧ (parseMethodDescriptor y_Names_make.desc).map (fun d => d.parameters.length) = some 2 := by decide +kernel
theorem in_Names_make : Cond.instanceMethod ⟨"TurtleWorld$Names", "make", "(II)I"⟩ ∈ tw_T := tw_i7 11 (by decide +kernel) (by decide +kernel)
theorem sel_Names_make : Cond.selects "TurtleWorld$Names" ⟨"TurtleWorld$Names", "make", "(II)I"⟩ ⟨"TurtleWorld$Names", "make", "(II)I"⟩ ∈ tw_T := tw_i7 12 (by decide +kernel) (by decide +kernel)
theorem lk_Deeds_245 : Cond.methodLink "TurtleWorld$Deeds" 245 ⟨"TurtleWorld$Deeds", "local", "(I)I"⟩ ∈ tw_T := tw_i7 16 (by decide +kernel) (by decide +kernel)
theorem hd_Deeds_local : y_Deeds_local.cls ≠ "java/lang/invoke/MethodHandle" ∧ y_Deeds_local.cls ≠ "java/lang/invoke/VarHandle" ∧ (parseMethodDescriptor y_Deeds_local.desc).map (fun d => d.parameters.length) = some 1 := by decide +kernel
theorem in_Deeds_local : Cond.instanceMethod ⟨"TurtleWorld$Deeds", "local", "(I)I"⟩ ∈ tw_T := tw_i7 18 (by decide +kernel) (by decide +kernel)
theorem sel_Deeds_local : Cond.selects "TurtleWorld$Deeds" ⟨"TurtleWorld$Deeds", "local", "(I)I"⟩ ⟨"TurtleWorld$Deeds", "local", "(I)I"⟩ ∈ tw_T := tw_inS 70 (by decide +kernel) (by decide +kernel)
theorem lk_Deeds_248 : Cond.methodLink "TurtleWorld$Deeds" 248 ⟨"TurtleWorld$Names", "find", "(I)I"⟩ ∈ tw_T := tw_i7 27 (by decide +kernel) (by decide +kernel)
theorem lk_Deeds_251 : Cond.constant "TurtleWorld$Deeds" 251 (-2147483646) ∈ tw_T := tw_i7 28 (by decide +kernel) (by decide +kernel)
theorem lk_Deeds_252 : Cond.methodLink "TurtleWorld$Deeds" 252 ⟨"TurtleWorld$Deeds", "tell", "(II)I"⟩ ∈ tw_T := tw_i7 29 (by decide +kernel) (by decide +kernel)
theorem hd_Deeds_tell : y_Deeds_tell.cls ≠ "java/lang/invoke/MethodHandle" ∧ y_Deeds_tell.cls ≠ "java/lang/invoke/VarHandle" ∧ (parseMethodDescriptor y_Deeds_tell.desc).map (fun d => d.parameters.length) = some 2 := by decide +kernel
theorem in_Deeds_tell : Cond.instanceMethod ⟨"TurtleWorld$Deeds", "tell", "(II)I"⟩ ∈ tw_T := tw_i7 31 (by decide +kernel) (by decide +kernel)
theorem sel_Deeds_tell : Cond.selects "TurtleWorld$Deeds" ⟨"TurtleWorld$Deeds", "tell", "(II)I"⟩ ⟨"TurtleWorld$Deeds", "tell", "(II)I"⟩ ∈ tw_T := tw_inS 71 (by decide +kernel) (by decide +kernel)
theorem lk_Deeds_255 : Cond.methodLink "TurtleWorld$Deeds" 255 ⟨"TurtleWorld$Deeds", "arity", "(I)I"⟩ ∈ tw_T := tw_i7 39 (by decide +kernel) (by decide +kernel)
theorem hd_Deeds_arity : y_Deeds_arity.cls ≠ "java/lang/invoke/MethodHandle" ∧ y_Deeds_arity.cls ≠ "java/lang/invoke/VarHandle" ∧ (parseMethodDescriptor y_Deeds_arity.desc).map (fun d => d.parameters.length) = some 1 := by decide +kernel
theorem in_Deeds_arity : Cond.instanceMethod ⟨"TurtleWorld$Deeds", "arity", "(I)I"⟩ ∈ tw_T := tw_i7 41 (by decide +kernel) (by decide +kernel)
theorem sel_Deeds_arity : Cond.selects "TurtleWorld$Deeds" ⟨"TurtleWorld$Deeds", "arity", "(I)I"⟩ ⟨"TurtleWorld$Deeds", "arity", "(I)I"⟩ ∈ tw_T := tw_inS 73 (by decide +kernel) (by decide +kernel)
theorem lk_Deeds_256 : Cond.methodLink "TurtleWorld$Deeds" 256 ⟨"TurtleWorld$Deeds", "text", "(I)I"⟩ ∈ tw_T := tw_i7 44 (by decide +kernel) (by decide +kernel)
theorem hd_Deeds_text : y_Deeds_text.cls ≠ "java/lang/invoke/MethodHandle" ∧ y_Deeds_text.cls ≠ "java/lang/invoke/VarHandle" ∧ (parseMethodDescriptor y_Deeds_text.desc).map (fun d => d.parameters.length) = some 1 := by decide +kernel
theorem in_Deeds_text : Cond.instanceMethod ⟨"TurtleWorld$Deeds", "text", "(I)I"⟩ ∈ tw_T := tw_i7 46 (by decide +kernel) (by decide +kernel)
theorem sel_Deeds_text : Cond.selects "TurtleWorld$Deeds" ⟨"TurtleWorld$Deeds", "text", "(I)I"⟩ ⟨"TurtleWorld$Deeds", "text", "(I)I"⟩ ∈ tw_T := tw_inS 74 (by decide +kernel) (by decide +kernel)
theorem lk_Deeds_258 : Cond.methodLink "TurtleWorld$Deeds" 258 ⟨"TurtleWorld$Deeds", "write", "(IZZ)I"⟩ ∈ tw_T := tw_i7 48 (by decide +kernel) (by decide +kernel)
theorem hd_Deeds_write : y_Deeds_write.cls ≠ "java/lang/invoke/MethodHandle" ∧ y_Deeds_write.cls ≠ "java/lang/invoke/VarHandle" ∧ (parseMethodDescriptor y_Deeds_write.desc).map (fun d => d.parameters.length) = some 3 := by decide +kernel
theorem in_Deeds_write : Cond.instanceMethod ⟨"TurtleWorld$Deeds", "write", "(IZZ)I"⟩ ∈ tw_T := tw_i7 50 (by decide +kernel) (by decide +kernel)
theorem sel_Deeds_write : Cond.selects "TurtleWorld$Deeds" ⟨"TurtleWorld$Deeds", "write", "(IZZ)I"⟩ ⟨"TurtleWorld$Deeds", "write", "(IZZ)I"⟩ ∈ tw_T := tw_inS 75 (by decide +kernel) (by decide +kernel)
theorem d_Machine_runningWord_0 : decode b_Machine_runningWord 0 = .ok (.aload_n 0, 1) := by decide +kernel
theorem d_Machine_runningWord_1 : decode b_Machine_runningWord 1 = .ok (.getfield 22, 3) := by decide +kernel
theorem d_Machine_runningWord_4 : decode b_Machine_runningWord 4 = .ok (.iconst 0, 1) := by decide +kernel
theorem d_Machine_runningWord_5 : decode b_Machine_runningWord 5 = .ok (.invokevirtual 347, 3) := by decide +kernel
theorem d_Machine_runningWord_8 : decode b_Machine_runningWord 8 = .ok (.istore_n 2, 1) := by decide +kernel
theorem d_Machine_runningWord_9 : decode b_Machine_runningWord 9 = .ok (.aload_n 0, 1) := by decide +kernel
theorem d_Machine_runningWord_10 : decode b_Machine_runningWord 10 = .ok (.getfield 22, 3) := by decide +kernel
theorem d_Machine_runningWord_13 : decode b_Machine_runningWord 13 = .ok (.iconst 1, 1) := by decide +kernel
theorem d_Machine_runningWord_14 : decode b_Machine_runningWord 14 = .ok (.invokevirtual 347, 3) := by decide +kernel
theorem d_Machine_runningWord_17 : decode b_Machine_runningWord 17 = .ok (.istore_n 3, 1) := by decide +kernel
theorem d_Machine_runningWord_18 : decode b_Machine_runningWord 18 = .ok (.iload_n 1, 1) := by decide +kernel
theorem d_Machine_runningWord_19 : decode b_Machine_runningWord 19 = .ok (.tableswitch 251 60 74 #[73, 85, 112, 146, 155, 160, 171, 197, 202, 209, 218, 223, 229, 240, 246], 73) := by decide +kernel
theorem d_Machine_runningWord_92 : decode b_Machine_runningWord 92 = .ok (.aload_n 0, 1) := by decide +kernel
theorem d_Machine_runningWord_93 : decode b_Machine_runningWord 93 = .ok (.bipush 6, 2) := by decide +kernel
theorem d_Machine_runningWord_95 : decode b_Machine_runningWord 95 = .ok (.iload_n 2, 1) := by decide +kernel
theorem d_Machine_runningWord_96 : decode b_Machine_runningWord 96 = .ok (.ldc 114, 2) := by decide +kernel
theorem d_Machine_runningWord_98 : decode b_Machine_runningWord 98 = .ok (.ldc 114, 2) := by decide +kernel
theorem d_Machine_runningWord_100 : decode b_Machine_runningWord 100 = .ok (.invokevirtual 353, 3) := by decide +kernel
theorem d_Machine_runningWord_103 : decode b_Machine_runningWord 103 = .ok (.ireturn, 1) := by decide +kernel
theorem d_Machine_runningWord_104 : decode b_Machine_runningWord 104 = .ok (.aload_n 0, 1) := by decide +kernel
theorem d_Machine_runningWord_105 : decode b_Machine_runningWord 105 = .ok (.getfield 38, 3) := by decide +kernel
theorem d_Machine_runningWord_108 : decode b_Machine_runningWord 108 = .ok (.iconst 0, 1) := by decide +kernel
theorem d_Machine_runningWord_109 : decode b_Machine_runningWord 109 = .ok (.invokevirtual 356, 3) := by decide +kernel
theorem d_Machine_runningWord_112 : decode b_Machine_runningWord 112 = .ok (.ifCond .eq 16, 3) := by decide +kernel
theorem d_Machine_runningWord_115 : decode b_Machine_runningWord 115 = .ok (.aload_n 0, 1) := by decide +kernel
theorem d_Machine_runningWord_116 : decode b_Machine_runningWord 116 = .ok (.iconst 2, 1) := by decide +kernel
theorem d_Machine_runningWord_117 : decode b_Machine_runningWord 117 = .ok (.iload_n 3, 1) := by decide +kernel
theorem d_Machine_runningWord_118 : decode b_Machine_runningWord 118 = .ok (.ldc 114, 2) := by decide +kernel
theorem d_Machine_runningWord_120 : decode b_Machine_runningWord 120 = .ok (.ldc 114, 2) := by decide +kernel
theorem d_Machine_runningWord_122 : decode b_Machine_runningWord 122 = .ok (.invokevirtual 353, 3) := by decide +kernel
theorem d_Machine_runningWord_125 : decode b_Machine_runningWord 125 = .ok (.goto 5, 3) := by decide +kernel
theorem d_Machine_runningWord_128 : decode b_Machine_runningWord 128 = .ok (.ldc 114, 2) := by decide +kernel
theorem d_Machine_runningWord_130 : decode b_Machine_runningWord 130 = .ok (.ireturn, 1) := by decide +kernel
theorem d_Machine_runningWord_131 : decode b_Machine_runningWord 131 = .ok (.aload_n 0, 1) := by decide +kernel
theorem d_Machine_runningWord_132 : decode b_Machine_runningWord 132 = .ok (.bipush 6, 2) := by decide +kernel
theorem d_Machine_runningWord_134 : decode b_Machine_runningWord 134 = .ok (.aload_n 0, 1) := by decide +kernel
theorem d_Machine_runningWord_135 : decode b_Machine_runningWord 135 = .ok (.getfield 38, 3) := by decide +kernel
theorem d_Machine_runningWord_138 : decode b_Machine_runningWord 138 = .ok (.iconst 0, 1) := by decide +kernel
theorem d_Machine_runningWord_139 : decode b_Machine_runningWord 139 = .ok (.invokevirtual 356, 3) := by decide +kernel
theorem d_Machine_runningWord_142 : decode b_Machine_runningWord 142 = .ok (.ifCond .eq 7, 3) := by decide +kernel
theorem d_Machine_runningWord_145 : decode b_Machine_runningWord 145 = .ok (.iload_n 3, 1) := by decide +kernel
theorem d_Machine_runningWord_146 : decode b_Machine_runningWord 146 = .ok (.goto 11, 3) := by decide +kernel
theorem d_Machine_runningWord_149 : decode b_Machine_runningWord 149 = .ok (.aload_n 0, 1) := by decide +kernel
theorem d_Machine_runningWord_150 : decode b_Machine_runningWord 150 = .ok (.getfield 22, 3) := by decide +kernel
theorem d_Machine_runningWord_153 : decode b_Machine_runningWord 153 = .ok (.iconst 2, 1) := by decide +kernel
theorem d_Machine_runningWord_154 : decode b_Machine_runningWord 154 = .ok (.invokevirtual 347, 3) := by decide +kernel
theorem d_Machine_runningWord_157 : decode b_Machine_runningWord 157 = .ok (.ldc 114, 2) := by decide +kernel
theorem d_Machine_runningWord_159 : decode b_Machine_runningWord 159 = .ok (.ldc 114, 2) := by decide +kernel
theorem d_Machine_runningWord_161 : decode b_Machine_runningWord 161 = .ok (.invokevirtual 353, 3) := by decide +kernel
theorem d_Machine_runningWord_164 : decode b_Machine_runningWord 164 = .ok (.ireturn, 1) := by decide +kernel
theorem d_Machine_runningWord_165 : decode b_Machine_runningWord 165 = .ok (.aload_n 0, 1) := by decide +kernel
theorem d_Machine_runningWord_166 : decode b_Machine_runningWord 166 = .ok (.iload_n 2, 1) := by decide +kernel
theorem d_Machine_runningWord_167 : decode b_Machine_runningWord 167 = .ok (.iconst 1, 1) := by decide +kernel
theorem d_Machine_runningWord_168 : decode b_Machine_runningWord 168 = .ok (.ishr, 1) := by decide +kernel
theorem d_Machine_runningWord_169 : decode b_Machine_runningWord 169 = .ok (.iload_n 3, 1) := by decide +kernel
theorem d_Machine_runningWord_170 : decode b_Machine_runningWord 170 = .ok (.invokevirtual 359, 3) := by decide +kernel
theorem d_Machine_runningWord_173 : decode b_Machine_runningWord 173 = .ok (.ireturn, 1) := by decide +kernel
theorem d_Machine_runningWord_174 : decode b_Machine_runningWord 174 = .ok (.aload_n 0, 1) := by decide +kernel
theorem d_Machine_runningWord_175 : decode b_Machine_runningWord 175 = .ok (.invokevirtual 362, 3) := by decide +kernel
theorem d_Machine_runningWord_178 : decode b_Machine_runningWord 178 = .ok (.ireturn, 1) := by decide +kernel
theorem d_Machine_runningWord_179 : decode b_Machine_runningWord 179 = .ok (.aload_n 0, 1) := by decide +kernel
theorem d_Machine_runningWord_180 : decode b_Machine_runningWord 180 = .ok (.bipush 9, 2) := by decide +kernel
theorem d_Machine_runningWord_182 : decode b_Machine_runningWord 182 = .ok (.iload_n 2, 1) := by decide +kernel
theorem d_Machine_runningWord_183 : decode b_Machine_runningWord 183 = .ok (.ldc 114, 2) := by decide +kernel
theorem d_Machine_runningWord_185 : decode b_Machine_runningWord 185 = .ok (.iload_n 3, 1) := by decide +kernel
theorem d_Machine_runningWord_186 : decode b_Machine_runningWord 186 = .ok (.invokevirtual 353, 3) := by decide +kernel
theorem d_Machine_runningWord_189 : decode b_Machine_runningWord 189 = .ok (.ireturn, 1) := by decide +kernel
theorem d_Machine_runningWord_190 : decode b_Machine_runningWord 190 = .ok (.aload_n 0, 1) := by decide +kernel
theorem d_Machine_runningWord_191 : decode b_Machine_runningWord 191 = .ok (.getfield 15, 3) := by decide +kernel
theorem d_Machine_runningWord_194 : decode b_Machine_runningWord 194 = .ok (.iload_n 2, 1) := by decide +kernel
theorem d_Machine_runningWord_195 : decode b_Machine_runningWord 195 = .ok (.invokevirtual 221, 3) := by decide +kernel
theorem d_Machine_runningWord_198 : decode b_Machine_runningWord 198 = .ok (.ifCond .ne 8, 3) := by decide +kernel
theorem d_Machine_runningWord_201 : decode b_Machine_runningWord 201 = .ok (.ldc 114, 2) := by decide +kernel
theorem d_Machine_runningWord_203 : decode b_Machine_runningWord 203 = .ok (.goto 12, 3) := by decide +kernel
theorem d_Machine_runningWord_206 : decode b_Machine_runningWord 206 = .ok (.aload_n 0, 1) := by decide +kernel
theorem d_Machine_runningWord_207 : decode b_Machine_runningWord 207 = .ok (.iconst 5, 1) := by decide +kernel
theorem d_Machine_runningWord_208 : decode b_Machine_runningWord 208 = .ok (.iload_n 3, 1) := by decide +kernel
theorem d_Machine_runningWord_209 : decode b_Machine_runningWord 209 = .ok (.ldc 114, 2) := by decide +kernel
theorem d_Machine_runningWord_211 : decode b_Machine_runningWord 211 = .ok (.iload_n 2, 1) := by decide +kernel
theorem d_Machine_runningWord_212 : decode b_Machine_runningWord 212 = .ok (.invokevirtual 353, 3) := by decide +kernel
theorem d_Machine_runningWord_215 : decode b_Machine_runningWord 215 = .ok (.ireturn, 1) := by decide +kernel
theorem d_Machine_runningWord_216 : decode b_Machine_runningWord 216 = .ok (.aload_n 0, 1) := by decide +kernel
theorem d_Machine_runningWord_217 : decode b_Machine_runningWord 217 = .ok (.invokevirtual 365, 3) := by decide +kernel
theorem d_Machine_runningWord_220 : decode b_Machine_runningWord 220 = .ok (.ireturn, 1) := by decide +kernel
theorem d_Machine_runningWord_221 : decode b_Machine_runningWord 221 = .ok (.aload_n 0, 1) := by decide +kernel
theorem d_Machine_runningWord_222 : decode b_Machine_runningWord 222 = .ok (.iload_n 2, 1) := by decide +kernel
theorem d_Machine_runningWord_223 : decode b_Machine_runningWord 223 = .ok (.iload_n 3, 1) := by decide +kernel
theorem d_Machine_runningWord_224 : decode b_Machine_runningWord 224 = .ok (.invokevirtual 368, 3) := by decide +kernel
theorem d_Machine_runningWord_227 : decode b_Machine_runningWord 227 = .ok (.ireturn, 1) := by decide +kernel
theorem d_Machine_runningWord_228 : decode b_Machine_runningWord 228 = .ok (.aload_n 0, 1) := by decide +kernel
theorem d_Machine_runningWord_229 : decode b_Machine_runningWord 229 = .ok (.iload_n 2, 1) := by decide +kernel
theorem d_Machine_runningWord_230 : decode b_Machine_runningWord 230 = .ok (.iconst 1, 1) := by decide +kernel
theorem d_Machine_runningWord_231 : decode b_Machine_runningWord 231 = .ok (.ishr, 1) := by decide +kernel
theorem d_Machine_runningWord_232 : decode b_Machine_runningWord 232 = .ok (.iload_n 3, 1) := by decide +kernel
theorem d_Machine_runningWord_233 : decode b_Machine_runningWord 233 = .ok (.invokevirtual 371, 3) := by decide +kernel
theorem d_Machine_runningWord_236 : decode b_Machine_runningWord 236 = .ok (.ireturn, 1) := by decide +kernel
theorem d_Machine_runningWord_237 : decode b_Machine_runningWord 237 = .ok (.aload_n 0, 1) := by decide +kernel
theorem d_Machine_runningWord_238 : decode b_Machine_runningWord 238 = .ok (.invokevirtual 374, 3) := by decide +kernel
theorem d_Machine_runningWord_241 : decode b_Machine_runningWord 241 = .ok (.ireturn, 1) := by decide +kernel
theorem d_Machine_runningWord_242 : decode b_Machine_runningWord 242 = .ok (.aload_n 0, 1) := by decide +kernel
theorem d_Machine_runningWord_243 : decode b_Machine_runningWord 243 = .ok (.iload_n 2, 1) := by decide +kernel
theorem d_Machine_runningWord_244 : decode b_Machine_runningWord 244 = .ok (.invokevirtual 377, 3) := by decide +kernel
theorem d_Machine_runningWord_247 : decode b_Machine_runningWord 247 = .ok (.ireturn, 1) := by decide +kernel
theorem d_Machine_runningWord_248 : decode b_Machine_runningWord 248 = .ok (.aload_n 0, 1) := by decide +kernel
theorem d_Machine_runningWord_249 : decode b_Machine_runningWord 249 = .ok (.bipush 8, 2) := by decide +kernel
theorem d_Machine_runningWord_251 : decode b_Machine_runningWord 251 = .ok (.iload_n 3, 1) := by decide +kernel
theorem d_Machine_runningWord_252 : decode b_Machine_runningWord 252 = .ok (.iload_n 2, 1) := by decide +kernel
theorem d_Machine_runningWord_253 : decode b_Machine_runningWord 253 = .ok (.ldc 114, 2) := by decide +kernel
theorem d_Machine_runningWord_255 : decode b_Machine_runningWord 255 = .ok (.invokevirtual 353, 3) := by decide +kernel
theorem d_Machine_runningWord_258 : decode b_Machine_runningWord 258 = .ok (.ireturn, 1) := by decide +kernel
theorem d_Machine_runningWord_259 : decode b_Machine_runningWord 259 = .ok (.aload_n 0, 1) := by decide +kernel
theorem d_Machine_runningWord_260 : decode b_Machine_runningWord 260 = .ok (.iload_n 2, 1) := by decide +kernel
theorem d_Machine_runningWord_261 : decode b_Machine_runningWord 261 = .ok (.invokevirtual 380, 3) := by decide +kernel
theorem d_Machine_runningWord_264 : decode b_Machine_runningWord 264 = .ok (.ireturn, 1) := by decide +kernel
theorem d_Machine_runningWord_265 : decode b_Machine_runningWord 265 = .ok (.aload_n 0, 1) := by decide +kernel
theorem d_Machine_runningWord_266 : decode b_Machine_runningWord 266 = .ok (.invokevirtual 383, 3) := by decide +kernel
theorem d_Machine_runningWord_269 : decode b_Machine_runningWord 269 = .ok (.ireturn, 1) := by decide +kernel
theorem d_Machine_runningWord_270 : decode b_Machine_runningWord 270 = .ok (.ldc 208, 2) := by decide +kernel
theorem d_Machine_runningWord_272 : decode b_Machine_runningWord 272 = .ok (.ireturn, 1) := by decide +kernel
theorem lk_Machine_356 : Cond.methodLink "TurtleWorld$Machine" 356 ⟨"TurtleWorld$Deeds", "isTrue", "(I)Z"⟩ ∈ tw_T := tw_i7 66 (by decide +kernel) (by decide +kernel)
theorem lk_Machine_359 : Cond.methodLink "TurtleWorld$Machine" 359 ⟨"TurtleWorld$Machine", "repeat", "(II)I"⟩ ∈ tw_T := tw_i7 67 (by decide +kernel) (by decide +kernel)
theorem hd_Machine_repeat : y_Machine_repeat.cls ≠ "java/lang/invoke/MethodHandle" ∧ y_Machine_repeat.cls ≠ "java/lang/invoke/VarHandle" ∧ (parseMethodDescriptor y_Machine_repeat.desc).map (fun d => d.parameters.length) = some 2 := by decide +kernel
theorem in_Machine_repeat : Cond.instanceMethod ⟨"TurtleWorld$Machine", "repeat", "(II)I"⟩ ∈ tw_T := tw_i7 69 (by decide +kernel) (by decide +kernel)
theorem sel_Machine_repeat : Cond.selects "TurtleWorld$Machine" ⟨"TurtleWorld$Machine", "repeat", "(II)I"⟩ ⟨"TurtleWorld$Machine", "repeat", "(II)I"⟩ ∈ tw_T := tw_inS 78 (by decide +kernel) (by decide +kernel)
theorem lk_Machine_362 : Cond.methodLink "TurtleWorld$Machine" 362 ⟨"TurtleWorld$Machine", "repcount", "()I"⟩ ∈ tw_T := tw_i7 71 (by decide +kernel) (by decide +kernel)
theorem hd_Machine_repcount : y_Machine_repcount.cls ≠ "java/lang/invoke/MethodHandle" ∧ y_Machine_repcount.cls ≠ "java/lang/invoke/VarHandle" ∧ (parseMethodDescriptor y_Machine_repcount.desc).map (fun d => d.parameters.length) = some 0 := by decide +kernel
theorem in_Machine_repcount : Cond.instanceMethod ⟨"TurtleWorld$Machine", "repcount", "()I"⟩ ∈ tw_T := tw_i7 73 (by decide +kernel) (by decide +kernel)
theorem sel_Machine_repcount : Cond.selects "TurtleWorld$Machine" ⟨"TurtleWorld$Machine", "repcount", "()I"⟩ ⟨"TurtleWorld$Machine", "repcount", "()I"⟩ ∈ tw_T := tw_inS 79 (by decide +kernel) (by decide +kernel)
theorem lk_Machine_365 : Cond.methodLink "TurtleWorld$Machine" 365 ⟨"TurtleWorld$Machine", "current", "()I"⟩ ∈ tw_T := tw_i7 80 (by decide +kernel) (by decide +kernel)
theorem hd_Machine_current : y_Machine_current.cls ≠ "java/lang/invoke/MethodHandle" ∧ y_Machine_current.cls ≠ "java/lang/invoke/VarHandle" ∧ (parseMethodDescriptor y_Machine_current.desc).map (fun d => d.parameters.length) = some 0 := by decide +kernel
theorem in_Machine_current : Cond.instanceMethod ⟨"TurtleWorld$Machine", "current", "()I"⟩ ∈ tw_T := tw_i7 82 (by decide +kernel) (by decide +kernel)
theorem sel_Machine_current : Cond.selects "TurtleWorld$Machine" ⟨"TurtleWorld$Machine", "current", "()I"⟩ ⟨"TurtleWorld$Machine", "current", "()I"⟩ ∈ tw_T := tw_inS 80 (by decide +kernel) (by decide +kernel)
theorem lk_Machine_368 : Cond.methodLink "TurtleWorld$Machine" 368 ⟨"TurtleWorld$Machine", "map", "(II)I"⟩ ∈ tw_T := tw_i7 84 (by decide +kernel) (by decide +kernel)
theorem hd_Machine_map : y_Machine_map.cls ≠ "java/lang/invoke/MethodHandle" ∧ y_Machine_map.cls ≠ "java/lang/invoke/VarHandle" ∧ (parseMethodDescriptor y_Machine_map.desc).map (fun d => d.parameters.length) = some 2 := by decide +kernel
theorem in_Machine_map : Cond.instanceMethod ⟨"TurtleWorld$Machine", "map", "(II)I"⟩ ∈ tw_T := tw_i7 86 (by decide +kernel) (by decide +kernel)
theorem sel_Machine_map : Cond.selects "TurtleWorld$Machine" ⟨"TurtleWorld$Machine", "map", "(II)I"⟩ ⟨"TurtleWorld$Machine", "map", "(II)I"⟩ ∈ tw_T := tw_inS 81 (by decide +kernel) (by decide +kernel)
theorem lk_Machine_371 : Cond.methodLink "TurtleWorld$Machine" 371 ⟨"TurtleWorld$Machine", "ask", "(II)I"⟩ ∈ tw_T := tw_i7 89 (by decide +kernel) (by decide +kernel)
theorem hd_Machine_ask : y_Machine_ask.cls ≠ "java/lang/invoke/MethodHandle" ∧ y_Machine_ask.cls ≠ "java/lang/invoke/VarHandle" ∧ (parseMethodDescriptor y_Machine_ask.desc).map (fun d => d.parameters.length) = some 2 := by decide +kernel
theorem in_Machine_ask : Cond.instanceMethod ⟨"TurtleWorld$Machine", "ask", "(II)I"⟩ ∈ tw_T := tw_i7 91 (by decide +kernel) (by decide +kernel)
theorem sel_Machine_ask : Cond.selects "TurtleWorld$Machine" ⟨"TurtleWorld$Machine", "ask", "(II)I"⟩ ⟨"TurtleWorld$Machine", "ask", "(II)I"⟩ ∈ tw_T := tw_inS 82 (by decide +kernel) (by decide +kernel)
theorem lk_Machine_374 : Cond.methodLink "TurtleWorld$Machine" 374 ⟨"TurtleWorld$Machine", "stopCall", "()I"⟩ ∈ tw_T := tw_i7 95 (by decide +kernel) (by decide +kernel)
theorem hd_Machine_stopCall : y_Machine_stopCall.cls ≠ "java/lang/invoke/MethodHandle" ∧ y_Machine_stopCall.cls ≠ "java/lang/invoke/VarHandle" ∧ (parseMethodDescriptor y_Machine_stopCall.desc).map (fun d => d.parameters.length) = some 0 := by decide +kernel
theorem in_Machine_stopCall : Cond.instanceMethod ⟨"TurtleWorld$Machine", "stopCall", "()I"⟩ ∈ tw_T := tw_i7 97 (by decide +kernel) (by decide +kernel)
theorem sel_Machine_stopCall : Cond.selects "TurtleWorld$Machine" ⟨"TurtleWorld$Machine", "stopCall", "()I"⟩ ⟨"TurtleWorld$Machine", "stopCall", "()I"⟩ ∈ tw_T := tw_inS 83 (by decide +kernel) (by decide +kernel)
theorem lk_Machine_377 : Cond.methodLink "TurtleWorld$Machine" 377 ⟨"TurtleWorld$Machine", "leaveCall", "(I)I"⟩ ∈ tw_T := tw_i7 100 (by decide +kernel) (by decide +kernel)
theorem hd_Machine_leaveCall : y_Machine_leaveCall.cls ≠ "java/lang/invoke/MethodHandle" ∧ y_Machine_leaveCall.cls ≠ "java/lang/invoke/VarHandle" ∧ (parseMethodDescriptor y_Machine_leaveCall.desc).map (fun d => d.parameters.length) = some 1 := by decide +kernel
theorem in_Machine_leaveCall : Cond.instanceMethod ⟨"TurtleWorld$Machine", "leaveCall", "(I)I"⟩ ∈ tw_T := tw_i7 102 (by decide +kernel) (by decide +kernel)
theorem sel_Machine_leaveCall : Cond.selects "TurtleWorld$Machine" ⟨"TurtleWorld$Machine", "leaveCall", "(I)I"⟩ ⟨"TurtleWorld$Machine", "leaveCall", "(I)I"⟩ ∈ tw_T := tw_inS 84 (by decide +kernel) (by decide +kernel)
theorem lk_Machine_380 : Cond.methodLink "TurtleWorld$Machine" 380 ⟨"TurtleWorld$Machine", "throwTo", "(I)I"⟩ ∈ tw_T := tw_i7 105 (by decide +kernel) (by decide +kernel)
theorem hd_Machine_throwTo : y_Machine_throwTo.cls ≠ "java/lang/invoke/MethodHandle" ∧ y_Machine_throwTo.cls ≠ "java/lang/invoke/VarHandle" ∧ (parseMethodDescriptor y_Machine_throwTo.desc).map (fun d => d.parameters.length) = some 1 := by decide +kernel
theorem in_Machine_throwTo : Cond.instanceMethod ⟨"TurtleWorld$Machine", "throwTo", "(I)I"⟩ ∈ tw_T := tw_i7 107 (by decide +kernel) (by decide +kernel)
theorem sel_Machine_throwTo : Cond.selects "TurtleWorld$Machine" ⟨"TurtleWorld$Machine", "throwTo", "(I)I"⟩ ⟨"TurtleWorld$Machine", "throwTo", "(I)I"⟩ ∈ tw_T := tw_inS 85 (by decide +kernel) (by decide +kernel)
theorem lk_Machine_383 : Cond.methodLink "TurtleWorld$Machine" 383 ⟨"TurtleWorld$Machine", "tellCaught", "()I"⟩ ∈ tw_T := tw_i7 110 (by decide +kernel) (by decide +kernel)
theorem hd_Machine_tellCaught : y_Machine_tellCaught.cls ≠ "java/lang/invoke/MethodHandle" ∧ y_Machine_tellCaught.cls ≠ "java/lang/invoke/VarHandle" ∧ (parseMethodDescriptor y_Machine_tellCaught.desc).map (fun d => d.parameters.length) = some 0 := by decide +kernel
theorem in_Machine_tellCaught : Cond.instanceMethod ⟨"TurtleWorld$Machine", "tellCaught", "()I"⟩ ∈ tw_T := tw_i7 112 (by decide +kernel) (by decide +kernel)
theorem sel_Machine_tellCaught : Cond.selects "TurtleWorld$Machine" ⟨"TurtleWorld$Machine", "tellCaught", "()I"⟩ ⟨"TurtleWorld$Machine", "tellCaught", "()I"⟩ ∈ tw_T := tw_inS 86 (by decide +kernel) (by decide +kernel)
def m_Deeds_turtleWord (n : Nat) (g : Nat → Nat) (i : Nat → Int32) (a : Nat → Nat → Int32) (v1 : Int32) : Option ((Nat → Int32) × (Nat → Nat → Int32) × Int32) := ob0 (m_Waiting_input n g i a (0 : Int32)) (fun r_2 => ob1 (r_2 >>> ((1 : Int32) &&& 31) : Int32) (fun x_3 => ob0 (m_Waiting_input n g i a (1 : Int32)) (fun r_5 => ob1 (r_5 >>> ((1 : Int32) &&& 31) : Int32) (fun x_6 => if v1 = 1 then ob (m_Turtles_forward n g i a x_3) (fun i_9 a_10 r_11 => some (i_9, a_10, r_11)) else if v1 = 2 then ob (m_Turtles_forward n g i a (-x_3)) (fun i_14 a_15 r_16 => some (i_14, a_15, r_16)) else if v1 = 3 then ob (m_Turtles_turnBy n g i a x_3) (fun i_19 a_20 r_21 => some (i_19, a_20, r_21)) else if v1 = 4 then ob (m_Turtles_turnBy n g i a (-x_3)) (fun i_24 a_25 r_26 => some (i_24, a_25, r_26)) else if v1 = 5 then ob (m_Turtles_turnTo n g i a (0 : Int32) x_3) (fun i_29 a_30 r_31 => some (i_29, a_30, r_31)) else if v1 = 6 then ob (m_Turtles_lower n g i a (0 : Int32)) (fun i_34 a_35 r_36 => some (i_34, a_35, r_36)) else if v1 = 7 then ob (m_Turtles_lower n g i a (1 : Int32)) (fun i_39 a_40 r_41 => some (i_39, a_40, r_41)) else if v1 = 8 then ob (m_Turtles_takePen n g i a x_3) (fun i_44 a_45 r_46 => some (i_44, a_45, r_46)) else if v1 = 9 then ob (m_Turtles_goHome n g i a) (fun i_49 a_50 r_51 => some (i_49, a_50, r_51)) else if v1 = 10 then ob (m_Turtles_putAt n g i a x_3 x_6) (fun i_54 a_55 r_56 => some (i_54, a_55, r_56)) else if v1 = 11 then ob (m_Turtles_wipe n g i a) (fun i_59 a_60 r_61 => some (i_59, a_60, r_61)) else if v1 = 12 then ob (m_Turtles_mean n g i a x_3) (fun i_64 a_65 r_66 => some (i_64, a_65, r_66)) else if v1 = 13 then ob0 (m_Turtles_part n g i a (i 17) (4 : Int32)) (fun r_69 => ob0 (m_Heap_number n (30 * r_69)) (fun r_71 => some (i, a, r_71))) else if v1 = 14 then ob0 (m_Turtles_floorOf n g i a (0 : Int32)) (fun r_74 => ob0 (m_Heap_number n r_74) (fun r_76 => some (i, a, r_76))) else if v1 = 15 then ob0 (m_Turtles_floorOf n g i a (1 : Int32)) (fun r_79 => ob0 (m_Heap_number n r_79) (fun r_81 => some (i, a, r_81))) else if v1 = 16 then ob0 (m_Turtles_colour n g i a) (fun r_84 => ob0 (m_Heap_number n r_84) (fun r_86 => some (i, a, r_86))) else if v1 = 17 then ob0 (m_Heap_number n (i 17)) (fun r_89 => some (i, a, r_89)) else if v1 = 18 then ob0 (m_Turtles_colourBelow n g i a) (fun r_92 => ob0 (m_Heap_number n r_92) (fun r_94 => some (i, a, r_94))) else if v1 = 19 then ob0 (m_Deeds_same n g i a x_3 x_6) (fun r_97 => some (i, a, r_97)) else some (i, a, (-2147483647))))))
set_option maxHeartbeats 4000000 in
set_option maxRecDepth 100000 in
theorem x_Deeds_turtleWord (l : Launch) (dC : Nat → ClassId) (dI : Nat → Nat → Nat) (cI : ClassId) (adK adV adA u o g : Nat → Nat) (sz : Nat) (n : Nat) {i : Nat → Int32} {a : Nat → Nat → Int32} {v1 : Int32} {i2 : Nat → Int32} {a2 : Nat → Nat → Int32} {r2 : Int32} (hm : m_Deeds_turtleWord n g i a v1 = some (i2, a2, r2)) : Met l y_Deeds_turtleWord w_Deeds_turtleWord ({ frames := 4, cells := 0, slots := 0, locals := 115 } : Room) (va_Pc [.ref ((u 10)), .int v1] (xE dC dI cI adK adV adA u o g i a sz)) (va_Qi (xR r2) (xB dC dI cI u o g i2 a2 (va_A (TW cI u o i a g) sz)) (va_A (TW cI u o i a g) sz)) 0 0 ((va_A (TW cI u o i a g) sz)) := by
  refine Met.ofW (cc := b_Deeds_turtleWord) (maxL := 4) (ret := (some .int)) (by decide) rfl ?_
  intro p e s m args below meth c s₁ B hml hv
  obtain ⟨rfl, hsz, hP, hK, hE, hD0⟩ := hv
  have hx := B.exec
  have hb := B.bytes
  have hr := B.returns
  have hts := atoms_spec (ws := w_Deeds_turtleWord) B.pre
  have htt : ∀ w ∈ tw_T, w.before _ s = true := fun w h => hts w (List.mem_cons_of_mem _ h)
  have hown : s.vm.findClass R_Deeds = some m.cls := findClass_of_methodNamed B.named
  have hlocks := B.notSynchronized
  subst hsz
  have hD := hD0.self (sz := s.heap.size)
  generalize hAe : (va_A (TW cI u o i a g) s.heap.size) = A at hD hE ⊢
  have hA : ∀ q : Nat, s.heap.size ≤ q → A q := fun q h => by rw [← hAe]; exact Or.inr h
  have hS : va_S A s.heap s.heap [] := va_S.rf
  have hl := lv_entry ([.ref ((u 10)), .int v1]) (n := 4) (Nat.le_of_ble_eq_true rfl)
  rw [lg_entry_eq]
  generalize (lg_sl ([.ref ((u 10)), .int v1]) ++ List.replicate (4 - (lg_sl ([.ref ((u 10)), .int v1])).length) Slot.unset).toArray = ls at hl ⊢
  have hl : lv_has ls 4 [(0, .ref ((u 10))), (1, .int v1)] := hl
  rw [m_Deeds_turtleWord] at hm
  refine lv_aload_n hx hb d_Deeds_turtleWord_0 rfl (lv_at hl 0 rfl) ?_
  refine va_get (D := (dC, dI)) (ci := 10) (v := .ref ((u 9))) (C := R_Deeds) (T := F_Deeds) (N := 8) hx hb htt iw_Deeds hown hK hP 10 xo_10 rfl 2 (Nat.le_of_ble_eq_true rfl) (htt _ lk_Deeds_22) (fun _ h9 => h9) xg_10_2 d_Deeds_turtleWord_1 ?_
  refine lv_iconst (v := 0) hx hb d_Deeds_turtleWord_4 (by decide) ?_
  obtain ⟨r_2, h_1, hm⟩ := ob0_some hm
  have hFc := x_free0 hS hA
  refine va_calli (va_runV (As := [.int 0]) (rest := []) ⟨hx, hb, hml, hown, hts⟩ (x_Waiting_input l dC dI cI adK adV adA u o g s.heap.size n h_1) (cwV 1 hts (tw_GV tw_cons cw_Waiting_input lk_Deeds_62 in_Waiting_input sel_Waiting_input ini_Waiting) rfl rfl rfl ⟨rfl, hd_Waiting_input⟩ ⟨Nat.le_of_ble_eq_true rfl, Nat.le_of_ble_eq_true rfl⟩) (xpVr hK hP hS hE hFc xo_9 rfl) rfl rfl hl.1 rfl (lv_room (Nat.le_of_ble_eq_true rfl)) d_Deeds_turtleWord_5 ⟨Nat.le_of_ble_eq_true rfl, Nat.le_of_ble_eq_true rfl⟩) hS (fun q _ h => hFc q h) hFc (fun r9 u9 t9 H locs ht hvm e9 hB hz1 hk1 hS => ?_)
  have e9 : r_2 = r9 := e9
  subst e9
  replace hP := x_keep hP hk1
  clear hFc hk1 hz1 hvm hB ht
  refine lv_iconst (v := 1) hx hb d_Deeds_turtleWord_8 (by decide) ?_
  refine lv_ishr hx hb d_Deeds_turtleWord_9 ?_
  refine lv_topi (fun x_3 ex_3 => ?_)
  replace hm := ob1_at ex_3 hm
  refine lv_istore_n (lv' := [(2, .int x_3), (0, .ref ((u 10))), (1, .int v1)]) hx hb d_Deeds_turtleWord_10 rfl hl (by decide) rfl (fun ls hl => ?_)
  refine lv_aload_n hx hb d_Deeds_turtleWord_11 rfl (lv_at hl 1 rfl) ?_
  refine va_get (D := (dC, dI)) (ci := 10) (v := .ref ((u 9))) (C := R_Deeds) (T := F_Deeds) (N := 8) hx hb htt iw_Deeds hown hK hP 10 xo_10 rfl 2 (Nat.le_of_ble_eq_true rfl) (htt _ lk_Deeds_22) (fun _ h9 => h9) xg_10_2 d_Deeds_turtleWord_12 ?_
  refine lv_iconst (v := 1) hx hb d_Deeds_turtleWord_15 (by decide) ?_
  obtain ⟨r_5, h_4, hm⟩ := ob0_some hm
  have hFc := x_free0 hS hA
  refine va_calli (va_runV (As := [.int 1]) (rest := []) ⟨hx, hb, hml, hown, hts⟩ (x_Waiting_input l dC dI cI adK adV adA u o g H.size n h_4) (cwV 1 hts (tw_GV tw_cons cw_Waiting_input lk_Deeds_62 in_Waiting_input sel_Waiting_input ini_Waiting) rfl rfl rfl ⟨rfl, hd_Waiting_input⟩ ⟨Nat.le_of_ble_eq_true rfl, Nat.le_of_ble_eq_true rfl⟩) (xpVr hK hP hS hE hFc xo_9 rfl) rfl rfl hl.1 rfl (lv_room (Nat.le_of_ble_eq_true rfl)) d_Deeds_turtleWord_16 ⟨Nat.le_of_ble_eq_true rfl, Nat.le_of_ble_eq_true rfl⟩) hS (fun q _ h => hFc q h) hFc (fun r9 u9 t9 H locs ht hvm e9 hB hz1 hk1 hS => ?_)
  have e9 : r_5 = r9 := e9
  subst e9
  replace hP := x_keep hP hk1
  clear hFc hk1 hz1 hvm hB ht
  refine lv_iconst (v := 1) hx hb d_Deeds_turtleWord_19 (by decide) ?_
  refine lv_ishr hx hb d_Deeds_turtleWord_20 ?_
  refine lv_topi (fun x_6 ex_6 => ?_)
  replace hm := ob1_at ex_6 hm
  refine lv_istore_n (lv' := [(3, .int x_6), (2, .int x_3), (0, .ref ((u 10))), (1, .int v1)]) hx hb d_Deeds_turtleWord_21 rfl hl (by decide) rfl (fun ls hl => ?_)
  refine lv_iload_n hx hb d_Deeds_turtleWord_22 rfl (lv_at hl 3 rfl) ?_
  rcases Classical.em (v1 = 1) with c_7 | c_7
  · replace hm := if_t c_7 hm
    refine lv_tableIn (x := v1) (tgt := 112) hx hb d_Deeds_turtleWord_23 (by rw [c_7]; decide) (by rw [c_7]; decide) (by rw [c_7]; rfl) (by decide) ?_
    refine lv_aload_n hx hb d_Deeds_turtleWord_112 rfl (lv_at hl 2 rfl) ?_
    refine va_get (D := (dC, dI)) (ci := 10) (v := .ref ((u 5))) (C := R_Deeds) (T := F_Deeds) (N := 8) hx hb htt iw_Deeds hown hK hP 10 xo_10 rfl 5 (Nat.le_of_ble_eq_true rfl) (htt _ lk_Deeds_34) (fun _ h9 => h9) xg_10_5 d_Deeds_turtleWord_113 ?_
    refine lv_iload_n hx hb d_Deeds_turtleWord_116 rfl (lv_at hl 1 rfl) ?_
    obtain ⟨i_9, a_10, r_11, h_8, hm⟩ := ob_some hm
    have hFc := x_free hD hS hA
    refine va_calli (va_runV (As := [.int x_3]) (rest := []) ⟨hx, hb, hml, hown, hts⟩ (x_Turtles_forward l dC dI cI adK adV adA u o g H.size n h_8) (cwV 1 hts (tw_GV tw_cons cw_Turtles_forward lk_Deeds_90 in_Turtles_forward sel_Turtles_forward ini_Turtles) rfl rfl rfl ⟨rfl, hd_Turtles_forward⟩ ⟨Nat.le_of_ble_eq_true rfl, Nat.le_of_ble_eq_true rfl⟩) (xpV hK hP hD hS hE hFc xo_5 rfl) rfl rfl hl.1 rfl (lv_room (Nat.le_of_ble_eq_true rfl)) d_Deeds_turtleWord_117 ⟨Nat.le_of_ble_eq_true rfl, Nat.le_of_ble_eq_true rfl⟩) hS (fun q _ h => hFc q h) hFc (fun r9 u9 t9 H locs ht hvm e9 hB hz1 hk1 hS => ?_)
    have e9 : r_11 = r9 := e9
    subst e9
    obtain ⟨hP, hD⟩ := x_aft hB ht hFc
    clear hFc hk1 hz1 hvm hB ht
    obtain ⟨e1i, e1a, e3⟩ := re3 hm
    obtain ⟨hP, hD⟩ := x_eq e1i e1a hP hD
    exact W.iret hx hb hr (fun t9 ht hW => ⟨⟨_, (), rfl, e3.symm, by rw [ht]; exact hP, hD⟩, hS.F ht⟩) hS.2.2 d_Deeds_turtleWord_120
  replace hm := if_f c_7 hm
  rcases Classical.em (v1 = 2) with c_12 | c_12
  · replace hm := if_t c_12 hm
    refine lv_tableIn (x := v1) (tgt := 121) hx hb d_Deeds_turtleWord_23 (by rw [c_12]; decide) (by rw [c_12]; decide) (by rw [c_12]; rfl) (by decide) ?_
    refine lv_aload_n hx hb d_Deeds_turtleWord_121 rfl (lv_at hl 2 rfl) ?_
    refine va_get (D := (dC, dI)) (ci := 10) (v := .ref ((u 5))) (C := R_Deeds) (T := F_Deeds) (N := 8) hx hb htt iw_Deeds hown hK hP 10 xo_10 rfl 5 (Nat.le_of_ble_eq_true rfl) (htt _ lk_Deeds_34) (fun _ h9 => h9) xg_10_5 d_Deeds_turtleWord_122 ?_
    refine lv_iload_n hx hb d_Deeds_turtleWord_125 rfl (lv_at hl 1 rfl) ?_
    refine lv_ineg hx hb d_Deeds_turtleWord_126 ?_
    obtain ⟨i_14, a_15, r_16, h_13, hm⟩ := ob_some hm
    have hFc := x_free hD hS hA
    refine va_calli (va_runV (As := [.int (-x_3)]) (rest := []) ⟨hx, hb, hml, hown, hts⟩ (x_Turtles_forward l dC dI cI adK adV adA u o g H.size n h_13) (cwV 1 hts (tw_GV tw_cons cw_Turtles_forward lk_Deeds_90 in_Turtles_forward sel_Turtles_forward ini_Turtles) rfl rfl rfl ⟨rfl, hd_Turtles_forward⟩ ⟨Nat.le_of_ble_eq_true rfl, Nat.le_of_ble_eq_true rfl⟩) (xpV hK hP hD hS hE hFc xo_5 rfl) rfl rfl hl.1 rfl (lv_room (Nat.le_of_ble_eq_true rfl)) d_Deeds_turtleWord_127 ⟨Nat.le_of_ble_eq_true rfl, Nat.le_of_ble_eq_true rfl⟩) hS (fun q _ h => hFc q h) hFc (fun r9 u9 t9 H locs ht hvm e9 hB hz1 hk1 hS => ?_)
    have e9 : r_16 = r9 := e9
    subst e9
    obtain ⟨hP, hD⟩ := x_aft hB ht hFc
    clear hFc hk1 hz1 hvm hB ht
    obtain ⟨e1i, e1a, e3⟩ := re3 hm
    obtain ⟨hP, hD⟩ := x_eq e1i e1a hP hD
    exact W.iret hx hb hr (fun t9 ht hW => ⟨⟨_, (), rfl, e3.symm, by rw [ht]; exact hP, hD⟩, hS.F ht⟩) hS.2.2 d_Deeds_turtleWord_130
  replace hm := if_f c_12 hm
  rcases Classical.em (v1 = 3) with c_17 | c_17
  · replace hm := if_t c_17 hm
    refine lv_tableIn (x := v1) (tgt := 131) hx hb d_Deeds_turtleWord_23 (by rw [c_17]; decide) (by rw [c_17]; decide) (by rw [c_17]; rfl) (by decide) ?_
    refine lv_aload_n hx hb d_Deeds_turtleWord_131 rfl (lv_at hl 2 rfl) ?_
    refine va_get (D := (dC, dI)) (ci := 10) (v := .ref ((u 5))) (C := R_Deeds) (T := F_Deeds) (N := 8) hx hb htt iw_Deeds hown hK hP 10 xo_10 rfl 5 (Nat.le_of_ble_eq_true rfl) (htt _ lk_Deeds_34) (fun _ h9 => h9) xg_10_5 d_Deeds_turtleWord_132 ?_
    refine lv_iload_n hx hb d_Deeds_turtleWord_135 rfl (lv_at hl 1 rfl) ?_
    obtain ⟨i_19, a_20, r_21, h_18, hm⟩ := ob_some hm
    have hFc := x_free hD hS hA
    refine va_calli (va_runV (As := [.int x_3]) (rest := []) ⟨hx, hb, hml, hown, hts⟩ (x_Turtles_turnBy l dC dI cI adK adV adA u o g H.size n h_18) (cwV 1 hts (tw_GV tw_cons cw_Turtles_turnBy lk_Deeds_95 in_Turtles_turnBy sel_Turtles_turnBy ini_Turtles) rfl rfl rfl ⟨rfl, hd_Turtles_turnBy⟩ ⟨Nat.le_of_ble_eq_true rfl, Nat.le_of_ble_eq_true rfl⟩) (xpV hK hP hD hS hE hFc xo_5 rfl) rfl rfl hl.1 rfl (lv_room (Nat.le_of_ble_eq_true rfl)) d_Deeds_turtleWord_136 ⟨Nat.le_of_ble_eq_true rfl, Nat.le_of_ble_eq_true rfl⟩) hS (fun q _ h => hFc q h) hFc (fun r9 u9 t9 H locs ht hvm e9 hB hz1 hk1 hS => ?_)
    have e9 : r_21 = r9 := e9
    subst e9
    obtain ⟨hP, hD⟩ := x_aft hB ht hFc
    clear hFc hk1 hz1 hvm hB ht
    obtain ⟨e1i, e1a, e3⟩ := re3 hm
    obtain ⟨hP, hD⟩ := x_eq e1i e1a hP hD
    exact W.iret hx hb hr (fun t9 ht hW => ⟨⟨_, (), rfl, e3.symm, by rw [ht]; exact hP, hD⟩, hS.F ht⟩) hS.2.2 d_Deeds_turtleWord_139
  replace hm := if_f c_17 hm
  rcases Classical.em (v1 = 4) with c_22 | c_22
  · replace hm := if_t c_22 hm
    refine lv_tableIn (x := v1) (tgt := 140) hx hb d_Deeds_turtleWord_23 (by rw [c_22]; decide) (by rw [c_22]; decide) (by rw [c_22]; rfl) (by decide) ?_
    refine lv_aload_n hx hb d_Deeds_turtleWord_140 rfl (lv_at hl 2 rfl) ?_
    refine va_get (D := (dC, dI)) (ci := 10) (v := .ref ((u 5))) (C := R_Deeds) (T := F_Deeds) (N := 8) hx hb htt iw_Deeds hown hK hP 10 xo_10 rfl 5 (Nat.le_of_ble_eq_true rfl) (htt _ lk_Deeds_34) (fun _ h9 => h9) xg_10_5 d_Deeds_turtleWord_141 ?_
    refine lv_iload_n hx hb d_Deeds_turtleWord_144 rfl (lv_at hl 1 rfl) ?_
    refine lv_ineg hx hb d_Deeds_turtleWord_145 ?_
    obtain ⟨i_24, a_25, r_26, h_23, hm⟩ := ob_some hm
    have hFc := x_free hD hS hA
    refine va_calli (va_runV (As := [.int (-x_3)]) (rest := []) ⟨hx, hb, hml, hown, hts⟩ (x_Turtles_turnBy l dC dI cI adK adV adA u o g H.size n h_23) (cwV 1 hts (tw_GV tw_cons cw_Turtles_turnBy lk_Deeds_95 in_Turtles_turnBy sel_Turtles_turnBy ini_Turtles) rfl rfl rfl ⟨rfl, hd_Turtles_turnBy⟩ ⟨Nat.le_of_ble_eq_true rfl, Nat.le_of_ble_eq_true rfl⟩) (xpV hK hP hD hS hE hFc xo_5 rfl) rfl rfl hl.1 rfl (lv_room (Nat.le_of_ble_eq_true rfl)) d_Deeds_turtleWord_146 ⟨Nat.le_of_ble_eq_true rfl, Nat.le_of_ble_eq_true rfl⟩) hS (fun q _ h => hFc q h) hFc (fun r9 u9 t9 H locs ht hvm e9 hB hz1 hk1 hS => ?_)
    have e9 : r_26 = r9 := e9
    subst e9
    obtain ⟨hP, hD⟩ := x_aft hB ht hFc
    clear hFc hk1 hz1 hvm hB ht
    obtain ⟨e1i, e1a, e3⟩ := re3 hm
    obtain ⟨hP, hD⟩ := x_eq e1i e1a hP hD
    exact W.iret hx hb hr (fun t9 ht hW => ⟨⟨_, (), rfl, e3.symm, by rw [ht]; exact hP, hD⟩, hS.F ht⟩) hS.2.2 d_Deeds_turtleWord_149
  replace hm := if_f c_22 hm
  rcases Classical.em (v1 = 5) with c_27 | c_27
  · replace hm := if_t c_27 hm
    refine lv_tableIn (x := v1) (tgt := 150) hx hb d_Deeds_turtleWord_23 (by rw [c_27]; decide) (by rw [c_27]; decide) (by rw [c_27]; rfl) (by decide) ?_
    refine lv_aload_n hx hb d_Deeds_turtleWord_150 rfl (lv_at hl 2 rfl) ?_
    refine va_get (D := (dC, dI)) (ci := 10) (v := .ref ((u 5))) (C := R_Deeds) (T := F_Deeds) (N := 8) hx hb htt iw_Deeds hown hK hP 10 xo_10 rfl 5 (Nat.le_of_ble_eq_true rfl) (htt _ lk_Deeds_34) (fun _ h9 => h9) xg_10_5 d_Deeds_turtleWord_151 ?_
    refine lv_iconst (v := 0) hx hb d_Deeds_turtleWord_154 (by decide) ?_
    refine lv_iload_n hx hb d_Deeds_turtleWord_155 rfl (lv_at hl 1 rfl) ?_
    obtain ⟨i_29, a_30, r_31, h_28, hm⟩ := ob_some hm
    have hFc := x_free hD hS hA
    refine va_calli (va_runV (As := [.int 0, .int x_3]) (rest := []) ⟨hx, hb, hml, hown, hts⟩ (x_Turtles_turnTo l dC dI cI adK adV adA u o g H.size n h_28) (cwV 2 hts (tw_GV tw_cons cw_Turtles_turnTo lk_Deeds_98 in_Turtles_turnTo sel_Turtles_turnTo ini_Turtles) rfl rfl rfl ⟨rfl, hd_Turtles_turnTo⟩ ⟨Nat.le_of_ble_eq_true rfl, Nat.le_of_ble_eq_true rfl⟩) (xpV hK hP hD hS hE hFc xo_5 rfl) rfl rfl hl.1 rfl (lv_room (Nat.le_of_ble_eq_true rfl)) d_Deeds_turtleWord_156 ⟨Nat.le_of_ble_eq_true rfl, Nat.le_of_ble_eq_true rfl⟩) hS (fun q _ h => hFc q h) hFc (fun r9 u9 t9 H locs ht hvm e9 hB hz1 hk1 hS => ?_)
    have e9 : r_31 = r9 := e9
    subst e9
    obtain ⟨hP, hD⟩ := x_aft hB ht hFc
    clear hFc hk1 hz1 hvm hB ht
    obtain ⟨e1i, e1a, e3⟩ := re3 hm
    obtain ⟨hP, hD⟩ := x_eq e1i e1a hP hD
    exact W.iret hx hb hr (fun t9 ht hW => ⟨⟨_, (), rfl, e3.symm, by rw [ht]; exact hP, hD⟩, hS.F ht⟩) hS.2.2 d_Deeds_turtleWord_159
  replace hm := if_f c_27 hm
  rcases Classical.em (v1 = 6) with c_32 | c_32
  · replace hm := if_t c_32 hm
    refine lv_tableIn (x := v1) (tgt := 160) hx hb d_Deeds_turtleWord_23 (by rw [c_32]; decide) (by rw [c_32]; decide) (by rw [c_32]; rfl) (by decide) ?_
    refine lv_aload_n hx hb d_Deeds_turtleWord_160 rfl (lv_at hl 2 rfl) ?_
    refine va_get (D := (dC, dI)) (ci := 10) (v := .ref ((u 5))) (C := R_Deeds) (T := F_Deeds) (N := 8) hx hb htt iw_Deeds hown hK hP 10 xo_10 rfl 5 (Nat.le_of_ble_eq_true rfl) (htt _ lk_Deeds_34) (fun _ h9 => h9) xg_10_5 d_Deeds_turtleWord_161 ?_
    refine lv_iconst (v := 0) hx hb d_Deeds_turtleWord_164 (by decide) ?_
    obtain ⟨i_34, a_35, r_36, h_33, hm⟩ := ob_some hm
    have hFc := x_free hD hS hA
    refine va_calli (va_runV (As := [.int 0]) (rest := []) ⟨hx, hb, hml, hown, hts⟩ (x_Turtles_lower l dC dI cI adK adV adA u o g H.size n h_33) (cwV 1 hts (tw_GV tw_cons cw_Turtles_lower lk_Deeds_101 in_Turtles_lower sel_Turtles_lower ini_Turtles) rfl rfl rfl ⟨rfl, hd_Turtles_lower⟩ ⟨Nat.le_of_ble_eq_true rfl, Nat.le_of_ble_eq_true rfl⟩) (xpV hK hP hD hS hE hFc xo_5 rfl) rfl rfl hl.1 rfl (lv_room (Nat.le_of_ble_eq_true rfl)) d_Deeds_turtleWord_165 ⟨Nat.le_of_ble_eq_true rfl, Nat.le_of_ble_eq_true rfl⟩) hS (fun q _ h => hFc q h) hFc (fun r9 u9 t9 H locs ht hvm e9 hB hz1 hk1 hS => ?_)
    have e9 : r_36 = r9 := e9
    subst e9
    obtain ⟨hP, hD⟩ := x_aft hB ht hFc
    clear hFc hk1 hz1 hvm hB ht
    obtain ⟨e1i, e1a, e3⟩ := re3 hm
    obtain ⟨hP, hD⟩ := x_eq e1i e1a hP hD
    exact W.iret hx hb hr (fun t9 ht hW => ⟨⟨_, (), rfl, e3.symm, by rw [ht]; exact hP, hD⟩, hS.F ht⟩) hS.2.2 d_Deeds_turtleWord_168
  replace hm := if_f c_32 hm
  rcases Classical.em (v1 = 7) with c_37 | c_37
  · replace hm := if_t c_37 hm
    refine lv_tableIn (x := v1) (tgt := 169) hx hb d_Deeds_turtleWord_23 (by rw [c_37]; decide) (by rw [c_37]; decide) (by rw [c_37]; rfl) (by decide) ?_
    refine lv_aload_n hx hb d_Deeds_turtleWord_169 rfl (lv_at hl 2 rfl) ?_
    refine va_get (D := (dC, dI)) (ci := 10) (v := .ref ((u 5))) (C := R_Deeds) (T := F_Deeds) (N := 8) hx hb htt iw_Deeds hown hK hP 10 xo_10 rfl 5 (Nat.le_of_ble_eq_true rfl) (htt _ lk_Deeds_34) (fun _ h9 => h9) xg_10_5 d_Deeds_turtleWord_170 ?_
    refine lv_iconst (v := 1) hx hb d_Deeds_turtleWord_173 (by decide) ?_
    obtain ⟨i_39, a_40, r_41, h_38, hm⟩ := ob_some hm
    have hFc := x_free hD hS hA
    refine va_calli (va_runV (As := [.int 1]) (rest := []) ⟨hx, hb, hml, hown, hts⟩ (x_Turtles_lower l dC dI cI adK adV adA u o g H.size n h_38) (cwV 1 hts (tw_GV tw_cons cw_Turtles_lower lk_Deeds_101 in_Turtles_lower sel_Turtles_lower ini_Turtles) rfl rfl rfl ⟨rfl, hd_Turtles_lower⟩ ⟨Nat.le_of_ble_eq_true rfl, Nat.le_of_ble_eq_true rfl⟩) (xpV hK hP hD hS hE hFc xo_5 rfl) rfl rfl hl.1 rfl (lv_room (Nat.le_of_ble_eq_true rfl)) d_Deeds_turtleWord_174 ⟨Nat.le_of_ble_eq_true rfl, Nat.le_of_ble_eq_true rfl⟩) hS (fun q _ h => hFc q h) hFc (fun r9 u9 t9 H locs ht hvm e9 hB hz1 hk1 hS => ?_)
    have e9 : r_41 = r9 := e9
    subst e9
    obtain ⟨hP, hD⟩ := x_aft hB ht hFc
    clear hFc hk1 hz1 hvm hB ht
    obtain ⟨e1i, e1a, e3⟩ := re3 hm
    obtain ⟨hP, hD⟩ := x_eq e1i e1a hP hD
    exact W.iret hx hb hr (fun t9 ht hW => ⟨⟨_, (), rfl, e3.symm, by rw [ht]; exact hP, hD⟩, hS.F ht⟩) hS.2.2 d_Deeds_turtleWord_177
  replace hm := if_f c_37 hm
  rcases Classical.em (v1 = 8) with c_42 | c_42
  · replace hm := if_t c_42 hm
    refine lv_tableIn (x := v1) (tgt := 178) hx hb d_Deeds_turtleWord_23 (by rw [c_42]; decide) (by rw [c_42]; decide) (by rw [c_42]; rfl) (by decide) ?_
    refine lv_aload_n hx hb d_Deeds_turtleWord_178 rfl (lv_at hl 2 rfl) ?_
    refine va_get (D := (dC, dI)) (ci := 10) (v := .ref ((u 5))) (C := R_Deeds) (T := F_Deeds) (N := 8) hx hb htt iw_Deeds hown hK hP 10 xo_10 rfl 5 (Nat.le_of_ble_eq_true rfl) (htt _ lk_Deeds_34) (fun _ h9 => h9) xg_10_5 d_Deeds_turtleWord_179 ?_
    refine lv_iload_n hx hb d_Deeds_turtleWord_182 rfl (lv_at hl 1 rfl) ?_
    obtain ⟨i_44, a_45, r_46, h_43, hm⟩ := ob_some hm
    have hFc := x_free hD hS hA
    refine va_calli (va_runV (As := [.int x_3]) (rest := []) ⟨hx, hb, hml, hown, hts⟩ (x_Turtles_takePen l dC dI cI adK adV adA u o g H.size n h_43) (cwV 1 hts (tw_GV tw_cons cw_Turtles_takePen lk_Deeds_105 in_Turtles_takePen sel_Turtles_takePen ini_Turtles) rfl rfl rfl ⟨rfl, hd_Turtles_takePen⟩ ⟨Nat.le_of_ble_eq_true rfl, Nat.le_of_ble_eq_true rfl⟩) (xpV hK hP hD hS hE hFc xo_5 rfl) rfl rfl hl.1 rfl (lv_room (Nat.le_of_ble_eq_true rfl)) d_Deeds_turtleWord_183 ⟨Nat.le_of_ble_eq_true rfl, Nat.le_of_ble_eq_true rfl⟩) hS (fun q _ h => hFc q h) hFc (fun r9 u9 t9 H locs ht hvm e9 hB hz1 hk1 hS => ?_)
    have e9 : r_46 = r9 := e9
    subst e9
    obtain ⟨hP, hD⟩ := x_aft hB ht hFc
    clear hFc hk1 hz1 hvm hB ht
    obtain ⟨e1i, e1a, e3⟩ := re3 hm
    obtain ⟨hP, hD⟩ := x_eq e1i e1a hP hD
    exact W.iret hx hb hr (fun t9 ht hW => ⟨⟨_, (), rfl, e3.symm, by rw [ht]; exact hP, hD⟩, hS.F ht⟩) hS.2.2 d_Deeds_turtleWord_186
  replace hm := if_f c_42 hm
  rcases Classical.em (v1 = 9) with c_47 | c_47
  · replace hm := if_t c_47 hm
    refine lv_tableIn (x := v1) (tgt := 187) hx hb d_Deeds_turtleWord_23 (by rw [c_47]; decide) (by rw [c_47]; decide) (by rw [c_47]; rfl) (by decide) ?_
    refine lv_aload_n hx hb d_Deeds_turtleWord_187 rfl (lv_at hl 2 rfl) ?_
    refine va_get (D := (dC, dI)) (ci := 10) (v := .ref ((u 5))) (C := R_Deeds) (T := F_Deeds) (N := 8) hx hb htt iw_Deeds hown hK hP 10 xo_10 rfl 5 (Nat.le_of_ble_eq_true rfl) (htt _ lk_Deeds_34) (fun _ h9 => h9) xg_10_5 d_Deeds_turtleWord_188 ?_
    obtain ⟨i_49, a_50, r_51, h_48, hm⟩ := ob_some hm
    have hFc := x_free hD hS hA
    refine va_calli (va_runV (As := []) (rest := []) ⟨hx, hb, hml, hown, hts⟩ (x_Turtles_goHome l dC dI cI adK adV adA u o g H.size n h_48) (cwV 0 hts (tw_GV tw_cons cw_Turtles_goHome lk_Deeds_108 in_Turtles_goHome sel_Turtles_goHome ini_Turtles) rfl rfl rfl ⟨rfl, hd_Turtles_goHome⟩ ⟨Nat.le_of_ble_eq_true rfl, Nat.le_of_ble_eq_true rfl⟩) (xpV hK hP hD hS hE hFc xo_5 rfl) rfl rfl hl.1 rfl (lv_room (Nat.le_of_ble_eq_true rfl)) d_Deeds_turtleWord_191 ⟨Nat.le_of_ble_eq_true rfl, Nat.le_of_ble_eq_true rfl⟩) hS (fun q _ h => hFc q h) hFc (fun r9 u9 t9 H locs ht hvm e9 hB hz1 hk1 hS => ?_)
    have e9 : r_51 = r9 := e9
    subst e9
    obtain ⟨hP, hD⟩ := x_aft hB ht hFc
    clear hFc hk1 hz1 hvm hB ht
    obtain ⟨e1i, e1a, e3⟩ := re3 hm
    obtain ⟨hP, hD⟩ := x_eq e1i e1a hP hD
    exact W.iret hx hb hr (fun t9 ht hW => ⟨⟨_, (), rfl, e3.symm, by rw [ht]; exact hP, hD⟩, hS.F ht⟩) hS.2.2 d_Deeds_turtleWord_194
  replace hm := if_f c_47 hm
  rcases Classical.em (v1 = 10) with c_52 | c_52
  · replace hm := if_t c_52 hm
    refine lv_tableIn (x := v1) (tgt := 195) hx hb d_Deeds_turtleWord_23 (by rw [c_52]; decide) (by rw [c_52]; decide) (by rw [c_52]; rfl) (by decide) ?_
    refine lv_aload_n hx hb d_Deeds_turtleWord_195 rfl (lv_at hl 2 rfl) ?_
    refine va_get (D := (dC, dI)) (ci := 10) (v := .ref ((u 5))) (C := R_Deeds) (T := F_Deeds) (N := 8) hx hb htt iw_Deeds hown hK hP 10 xo_10 rfl 5 (Nat.le_of_ble_eq_true rfl) (htt _ lk_Deeds_34) (fun _ h9 => h9) xg_10_5 d_Deeds_turtleWord_196 ?_
    refine lv_iload_n hx hb d_Deeds_turtleWord_199 rfl (lv_at hl 1 rfl) ?_
    refine lv_iload_n hx hb d_Deeds_turtleWord_200 rfl (lv_at hl 0 rfl) ?_
    obtain ⟨i_54, a_55, r_56, h_53, hm⟩ := ob_some hm
    have hFc := x_free hD hS hA
    refine va_calli (va_runV (As := [.int x_3, .int x_6]) (rest := []) ⟨hx, hb, hml, hown, hts⟩ (x_Turtles_putAt l dC dI cI adK adV adA u o g H.size n h_53) (cwV 2 hts (tw_GV tw_cons cw_Turtles_putAt lk_Deeds_112 in_Turtles_putAt sel_Turtles_putAt ini_Turtles) rfl rfl rfl ⟨rfl, hd_Turtles_putAt⟩ ⟨Nat.le_of_ble_eq_true rfl, Nat.le_of_ble_eq_true rfl⟩) (xpV hK hP hD hS hE hFc xo_5 rfl) rfl rfl hl.1 rfl (lv_room (Nat.le_of_ble_eq_true rfl)) d_Deeds_turtleWord_201 ⟨Nat.le_of_ble_eq_true rfl, Nat.le_of_ble_eq_true rfl⟩) hS (fun q _ h => hFc q h) hFc (fun r9 u9 t9 H locs ht hvm e9 hB hz1 hk1 hS => ?_)
    have e9 : r_56 = r9 := e9
    subst e9
    obtain ⟨hP, hD⟩ := x_aft hB ht hFc
    clear hFc hk1 hz1 hvm hB ht
    obtain ⟨e1i, e1a, e3⟩ := re3 hm
    obtain ⟨hP, hD⟩ := x_eq e1i e1a hP hD
    exact W.iret hx hb hr (fun t9 ht hW => ⟨⟨_, (), rfl, e3.symm, by rw [ht]; exact hP, hD⟩, hS.F ht⟩) hS.2.2 d_Deeds_turtleWord_204
  replace hm := if_f c_52 hm
  rcases Classical.em (v1 = 11) with c_57 | c_57
  · replace hm := if_t c_57 hm
    refine lv_tableIn (x := v1) (tgt := 205) hx hb d_Deeds_turtleWord_23 (by rw [c_57]; decide) (by rw [c_57]; decide) (by rw [c_57]; rfl) (by decide) ?_
    refine lv_aload_n hx hb d_Deeds_turtleWord_205 rfl (lv_at hl 2 rfl) ?_
    refine va_get (D := (dC, dI)) (ci := 10) (v := .ref ((u 5))) (C := R_Deeds) (T := F_Deeds) (N := 8) hx hb htt iw_Deeds hown hK hP 10 xo_10 rfl 5 (Nat.le_of_ble_eq_true rfl) (htt _ lk_Deeds_34) (fun _ h9 => h9) xg_10_5 d_Deeds_turtleWord_206 ?_
    obtain ⟨i_59, a_60, r_61, h_58, hm⟩ := ob_some hm
    have hFc := x_free hD hS hA
    refine va_calli (va_runV (As := []) (rest := []) ⟨hx, hb, hml, hown, hts⟩ (x_Turtles_wipe l dC dI cI adK adV adA u o g H.size n h_58) (cwV 0 hts (tw_GV tw_cons cw_Turtles_wipe lk_Deeds_115 in_Turtles_wipe sel_Turtles_wipe ini_Turtles) rfl rfl rfl ⟨rfl, hd_Turtles_wipe⟩ ⟨Nat.le_of_ble_eq_true rfl, Nat.le_of_ble_eq_true rfl⟩) (xpV hK hP hD hS hE hFc xo_5 rfl) rfl rfl hl.1 rfl (lv_room (Nat.le_of_ble_eq_true rfl)) d_Deeds_turtleWord_209 ⟨Nat.le_of_ble_eq_true rfl, Nat.le_of_ble_eq_true rfl⟩) hS (fun q _ h => hFc q h) hFc (fun r9 u9 t9 H locs ht hvm e9 hB hz1 hk1 hS => ?_)
    have e9 : r_61 = r9 := e9
    subst e9
    obtain ⟨hP, hD⟩ := x_aft hB ht hFc
    clear hFc hk1 hz1 hvm hB ht
    obtain ⟨e1i, e1a, e3⟩ := re3 hm
    obtain ⟨hP, hD⟩ := x_eq e1i e1a hP hD
    exact W.iret hx hb hr (fun t9 ht hW => ⟨⟨_, (), rfl, e3.symm, by rw [ht]; exact hP, hD⟩, hS.F ht⟩) hS.2.2 d_Deeds_turtleWord_212
  replace hm := if_f c_57 hm
  rcases Classical.em (v1 = 12) with c_62 | c_62
  · replace hm := if_t c_62 hm
    refine lv_tableIn (x := v1) (tgt := 213) hx hb d_Deeds_turtleWord_23 (by rw [c_62]; decide) (by rw [c_62]; decide) (by rw [c_62]; rfl) (by decide) ?_
    refine lv_aload_n hx hb d_Deeds_turtleWord_213 rfl (lv_at hl 2 rfl) ?_
    refine va_get (D := (dC, dI)) (ci := 10) (v := .ref ((u 5))) (C := R_Deeds) (T := F_Deeds) (N := 8) hx hb htt iw_Deeds hown hK hP 10 xo_10 rfl 5 (Nat.le_of_ble_eq_true rfl) (htt _ lk_Deeds_34) (fun _ h9 => h9) xg_10_5 d_Deeds_turtleWord_214 ?_
    refine lv_iload_n hx hb d_Deeds_turtleWord_217 rfl (lv_at hl 1 rfl) ?_
    obtain ⟨i_64, a_65, r_66, h_63, hm⟩ := ob_some hm
    have hFc := x_free hD hS hA
    refine va_calli (va_runV (As := [.int x_3]) (rest := []) ⟨hx, hb, hml, hown, hts⟩ (x_Turtles_mean l dC dI cI adK adV adA u o g H.size n h_63) (cwV 1 hts (tw_GV tw_cons cw_Turtles_mean lk_Deeds_118 in_Turtles_mean sel_Turtles_mean ini_Turtles) rfl rfl rfl ⟨rfl, hd_Turtles_mean⟩ ⟨Nat.le_of_ble_eq_true rfl, Nat.le_of_ble_eq_true rfl⟩) (xpV hK hP hD hS hE hFc xo_5 rfl) rfl rfl hl.1 rfl (lv_room (Nat.le_of_ble_eq_true rfl)) d_Deeds_turtleWord_218 ⟨Nat.le_of_ble_eq_true rfl, Nat.le_of_ble_eq_true rfl⟩) hS (fun q _ h => hFc q h) hFc (fun r9 u9 t9 H locs ht hvm e9 hB hz1 hk1 hS => ?_)
    have e9 : r_66 = r9 := e9
    subst e9
    obtain ⟨hP, hD⟩ := x_aft hB ht hFc
    clear hFc hk1 hz1 hvm hB ht
    obtain ⟨e1i, e1a, e3⟩ := re3 hm
    obtain ⟨hP, hD⟩ := x_eq e1i e1a hP hD
    exact W.iret hx hb hr (fun t9 ht hW => ⟨⟨_, (), rfl, e3.symm, by rw [ht]; exact hP, hD⟩, hS.F ht⟩) hS.2.2 d_Deeds_turtleWord_221
  replace hm := if_f c_62 hm
  rcases Classical.em (v1 = 13) with c_67 | c_67
  · replace hm := if_t c_67 hm
    refine lv_tableIn (x := v1) (tgt := 222) hx hb d_Deeds_turtleWord_23 (by rw [c_67]; decide) (by rw [c_67]; decide) (by rw [c_67]; rfl) (by decide) ?_
    refine lv_bipush (v := 30) hx hb d_Deeds_turtleWord_222 (by decide) ?_
    refine lv_aload_n hx hb d_Deeds_turtleWord_224 rfl (lv_at hl 2 rfl) ?_
    refine va_get (D := (dC, dI)) (ci := 10) (v := .ref ((u 5))) (C := R_Deeds) (T := F_Deeds) (N := 8) hx hb htt iw_Deeds hown hK hP 10 xo_10 rfl 5 (Nat.le_of_ble_eq_true rfl) (htt _ lk_Deeds_34) (fun _ h9 => h9) xg_10_5 d_Deeds_turtleWord_225 ?_
    refine lv_aload_n hx hb d_Deeds_turtleWord_228 rfl (lv_at hl 2 rfl) ?_
    refine va_get (D := (dC, dI)) (ci := 10) (v := .ref ((u 5))) (C := R_Deeds) (T := F_Deeds) (N := 8) hx hb htt iw_Deeds hown hK hP 10 xo_10 rfl 5 (Nat.le_of_ble_eq_true rfl) (htt _ lk_Deeds_34) (fun _ h9 => h9) xg_10_5 d_Deeds_turtleWord_229 ?_
    refine va_get (D := (dC, dI)) (ci := 5) (v := .int (i 17)) (C := R_Turtles) (T := F_Turtles) (N := 8) hx hb htt iw_Turtles hown hK hP 5 xo_5 rfl 2 (Nat.le_of_ble_eq_true rfl) (htt _ lk_Deeds_121) (fun _ h9 => h9) xg_5_2 d_Deeds_turtleWord_232 ?_
    refine lv_iconst (v := 4) hx hb d_Deeds_turtleWord_235 (by decide) ?_
    obtain ⟨r_69, h_68, hm⟩ := ob0_some hm
    have hFc := x_free0 hS hA
    refine va_calli (va_runV (As := [.int (i 17), .int 4]) (rest := [.int 30]) ⟨hx, hb, hml, hown, hts⟩ (x_Turtles_part l dC dI cI adK adV adA u o g H.size n h_68) (cwV 2 hts (tw_GV tw_cons cw_Turtles_part lk_Deeds_124 in_Turtles_part sel_Turtles_part ini_Turtles) rfl rfl rfl ⟨rfl, hd_Turtles_part⟩ ⟨Nat.le_of_ble_eq_true rfl, Nat.le_of_ble_eq_true rfl⟩) (xpVr hK hP hS hE hFc xo_5 rfl) rfl rfl hl.1 rfl (lv_room (Nat.le_of_ble_eq_true rfl)) d_Deeds_turtleWord_236 ⟨Nat.le_of_ble_eq_true rfl, Nat.le_of_ble_eq_true rfl⟩) hS (fun q _ h => hFc q h) hFc (fun r9 u9 t9 H locs ht hvm e9 hB hz1 hk1 hS => ?_)
    have e9 : r_69 = r9 := e9
    subst e9
    replace hP := x_keep hP hk1
    clear hFc hk1 hz1 hvm hB ht
    refine lv_imul hx hb d_Deeds_turtleWord_239 ?_
    obtain ⟨r_71, h_70, hm⟩ := ob0_some hm
    have hFc := x_free0 hS hA
    refine va_calli (va_runS (As := [.int (30 * r_69)]) (rest := []) ⟨hx, hb, hml, hown, hts⟩ (x_Heap_number l H.size n h_70) (va_cwS 1 hts (tw_GS tw_cons cw_Heap_number lk_Deeds_127 st_Heap_number ini_Heap) rfl rfl rfl hd_Heap_number ⟨Nat.le_of_ble_eq_true rfl, Nat.le_of_ble_eq_true rfl⟩) xpS0 rfl rfl hl.1 rfl (lv_room (Nat.le_of_ble_eq_true rfl)) d_Deeds_turtleWord_240 ⟨Nat.le_of_ble_eq_true rfl, Nat.le_of_ble_eq_true rfl⟩) hS (fun q _ h => hFc q h) hFc (fun r9 u9 t9 H locs ht hvm e9 hB hz1 hk1 hS => ?_)
    have e9 : r_71 = r9 := e9
    subst e9
    replace hP := x_keep hP hk1
    clear hFc hk1 hz1 hvm hB ht
    obtain ⟨e1i, e1a, e3⟩ := re3 hm
    obtain ⟨hP, hD⟩ := x_eq e1i e1a hP hD
    exact W.iret hx hb hr (fun t9 ht hW => ⟨⟨_, (), rfl, e3.symm, by rw [ht]; exact hP, hD⟩, hS.F ht⟩) hS.2.2 d_Deeds_turtleWord_243
  replace hm := if_f c_67 hm
  rcases Classical.em (v1 = 14) with c_72 | c_72
  · replace hm := if_t c_72 hm
    refine lv_tableIn (x := v1) (tgt := 244) hx hb d_Deeds_turtleWord_23 (by rw [c_72]; decide) (by rw [c_72]; decide) (by rw [c_72]; rfl) (by decide) ?_
    refine lv_aload_n hx hb d_Deeds_turtleWord_244 rfl (lv_at hl 2 rfl) ?_
    refine va_get (D := (dC, dI)) (ci := 10) (v := .ref ((u 5))) (C := R_Deeds) (T := F_Deeds) (N := 8) hx hb htt iw_Deeds hown hK hP 10 xo_10 rfl 5 (Nat.le_of_ble_eq_true rfl) (htt _ lk_Deeds_34) (fun _ h9 => h9) xg_10_5 d_Deeds_turtleWord_245 ?_
    refine lv_iconst (v := 0) hx hb d_Deeds_turtleWord_248 (by decide) ?_
    obtain ⟨r_74, h_73, hm⟩ := ob0_some hm
    have hFc := x_free0 hS hA
    refine va_calli (va_runV (As := [.int 0]) (rest := []) ⟨hx, hb, hml, hown, hts⟩ (x_Turtles_floorOf l dC dI cI adK adV adA u o g H.size n h_73) (cwV 1 hts (tw_GV tw_cons cw_Turtles_floorOf lk_Deeds_130 in_Turtles_floorOf sel_Turtles_floorOf ini_Turtles) rfl rfl rfl ⟨rfl, hd_Turtles_floorOf⟩ ⟨Nat.le_of_ble_eq_true rfl, Nat.le_of_ble_eq_true rfl⟩) (xpVr hK hP hS hE hFc xo_5 rfl) rfl rfl hl.1 rfl (lv_room (Nat.le_of_ble_eq_true rfl)) d_Deeds_turtleWord_249 ⟨Nat.le_of_ble_eq_true rfl, Nat.le_of_ble_eq_true rfl⟩) hS (fun q _ h => hFc q h) hFc (fun r9 u9 t9 H locs ht hvm e9 hB hz1 hk1 hS => ?_)
    have e9 : r_74 = r9 := e9
    subst e9
    replace hP := x_keep hP hk1
    clear hFc hk1 hz1 hvm hB ht
    obtain ⟨r_76, h_75, hm⟩ := ob0_some hm
    have hFc := x_free0 hS hA
    refine va_calli (va_runS (As := [.int r_74]) (rest := []) ⟨hx, hb, hml, hown, hts⟩ (x_Heap_number l H.size n h_75) (va_cwS 1 hts (tw_GS tw_cons cw_Heap_number lk_Deeds_127 st_Heap_number ini_Heap) rfl rfl rfl hd_Heap_number ⟨Nat.le_of_ble_eq_true rfl, Nat.le_of_ble_eq_true rfl⟩) xpS0 rfl rfl hl.1 rfl (lv_room (Nat.le_of_ble_eq_true rfl)) d_Deeds_turtleWord_252 ⟨Nat.le_of_ble_eq_true rfl, Nat.le_of_ble_eq_true rfl⟩) hS (fun q _ h => hFc q h) hFc (fun r9 u9 t9 H locs ht hvm e9 hB hz1 hk1 hS => ?_)
    have e9 : r_76 = r9 := e9
    subst e9
    replace hP := x_keep hP hk1
    clear hFc hk1 hz1 hvm hB ht
    obtain ⟨e1i, e1a, e3⟩ := re3 hm
    obtain ⟨hP, hD⟩ := x_eq e1i e1a hP hD
    exact W.iret hx hb hr (fun t9 ht hW => ⟨⟨_, (), rfl, e3.symm, by rw [ht]; exact hP, hD⟩, hS.F ht⟩) hS.2.2 d_Deeds_turtleWord_255
  replace hm := if_f c_72 hm
  rcases Classical.em (v1 = 15) with c_77 | c_77
  · replace hm := if_t c_77 hm
    refine lv_tableIn (x := v1) (tgt := 256) hx hb d_Deeds_turtleWord_23 (by rw [c_77]; decide) (by rw [c_77]; decide) (by rw [c_77]; rfl) (by decide) ?_
    refine lv_aload_n hx hb d_Deeds_turtleWord_256 rfl (lv_at hl 2 rfl) ?_
    refine va_get (D := (dC, dI)) (ci := 10) (v := .ref ((u 5))) (C := R_Deeds) (T := F_Deeds) (N := 8) hx hb htt iw_Deeds hown hK hP 10 xo_10 rfl 5 (Nat.le_of_ble_eq_true rfl) (htt _ lk_Deeds_34) (fun _ h9 => h9) xg_10_5 d_Deeds_turtleWord_257 ?_
    refine lv_iconst (v := 1) hx hb d_Deeds_turtleWord_260 (by decide) ?_
    obtain ⟨r_79, h_78, hm⟩ := ob0_some hm
    have hFc := x_free0 hS hA
    refine va_calli (va_runV (As := [.int 1]) (rest := []) ⟨hx, hb, hml, hown, hts⟩ (x_Turtles_floorOf l dC dI cI adK adV adA u o g H.size n h_78) (cwV 1 hts (tw_GV tw_cons cw_Turtles_floorOf lk_Deeds_130 in_Turtles_floorOf sel_Turtles_floorOf ini_Turtles) rfl rfl rfl ⟨rfl, hd_Turtles_floorOf⟩ ⟨Nat.le_of_ble_eq_true rfl, Nat.le_of_ble_eq_true rfl⟩) (xpVr hK hP hS hE hFc xo_5 rfl) rfl rfl hl.1 rfl (lv_room (Nat.le_of_ble_eq_true rfl)) d_Deeds_turtleWord_261 ⟨Nat.le_of_ble_eq_true rfl, Nat.le_of_ble_eq_true rfl⟩) hS (fun q _ h => hFc q h) hFc (fun r9 u9 t9 H locs ht hvm e9 hB hz1 hk1 hS => ?_)
    have e9 : r_79 = r9 := e9
    subst e9
    replace hP := x_keep hP hk1
    clear hFc hk1 hz1 hvm hB ht
    obtain ⟨r_81, h_80, hm⟩ := ob0_some hm
    have hFc := x_free0 hS hA
    refine va_calli (va_runS (As := [.int r_79]) (rest := []) ⟨hx, hb, hml, hown, hts⟩ (x_Heap_number l H.size n h_80) (va_cwS 1 hts (tw_GS tw_cons cw_Heap_number lk_Deeds_127 st_Heap_number ini_Heap) rfl rfl rfl hd_Heap_number ⟨Nat.le_of_ble_eq_true rfl, Nat.le_of_ble_eq_true rfl⟩) xpS0 rfl rfl hl.1 rfl (lv_room (Nat.le_of_ble_eq_true rfl)) d_Deeds_turtleWord_264 ⟨Nat.le_of_ble_eq_true rfl, Nat.le_of_ble_eq_true rfl⟩) hS (fun q _ h => hFc q h) hFc (fun r9 u9 t9 H locs ht hvm e9 hB hz1 hk1 hS => ?_)
    have e9 : r_81 = r9 := e9
    subst e9
    replace hP := x_keep hP hk1
    clear hFc hk1 hz1 hvm hB ht
    obtain ⟨e1i, e1a, e3⟩ := re3 hm
    obtain ⟨hP, hD⟩ := x_eq e1i e1a hP hD
    exact W.iret hx hb hr (fun t9 ht hW => ⟨⟨_, (), rfl, e3.symm, by rw [ht]; exact hP, hD⟩, hS.F ht⟩) hS.2.2 d_Deeds_turtleWord_267
  replace hm := if_f c_77 hm
  rcases Classical.em (v1 = 16) with c_82 | c_82
  · replace hm := if_t c_82 hm
    refine lv_tableIn (x := v1) (tgt := 268) hx hb d_Deeds_turtleWord_23 (by rw [c_82]; decide) (by rw [c_82]; decide) (by rw [c_82]; rfl) (by decide) ?_
    refine lv_aload_n hx hb d_Deeds_turtleWord_268 rfl (lv_at hl 2 rfl) ?_
    refine va_get (D := (dC, dI)) (ci := 10) (v := .ref ((u 5))) (C := R_Deeds) (T := F_Deeds) (N := 8) hx hb htt iw_Deeds hown hK hP 10 xo_10 rfl 5 (Nat.le_of_ble_eq_true rfl) (htt _ lk_Deeds_34) (fun _ h9 => h9) xg_10_5 d_Deeds_turtleWord_269 ?_
    obtain ⟨r_84, h_83, hm⟩ := ob0_some hm
    have hFc := x_free0 hS hA
    refine va_calli (va_runV (As := []) (rest := []) ⟨hx, hb, hml, hown, hts⟩ (x_Turtles_colour l dC dI cI adK adV adA u o g H.size n h_83) (cwV 0 hts (tw_GV tw_cons cw_Turtles_colour lk_Deeds_133 in_Turtles_colour sel_Turtles_colour ini_Turtles) rfl rfl rfl ⟨rfl, hd_Turtles_colour⟩ ⟨Nat.le_of_ble_eq_true rfl, Nat.le_of_ble_eq_true rfl⟩) (xpVr hK hP hS hE hFc xo_5 rfl) rfl rfl hl.1 rfl (lv_room (Nat.le_of_ble_eq_true rfl)) d_Deeds_turtleWord_272 ⟨Nat.le_of_ble_eq_true rfl, Nat.le_of_ble_eq_true rfl⟩) hS (fun q _ h => hFc q h) hFc (fun r9 u9 t9 H locs ht hvm e9 hB hz1 hk1 hS => ?_)
    have e9 : r_84 = r9 := e9
    subst e9
    replace hP := x_keep hP hk1
    clear hFc hk1 hz1 hvm hB ht
    obtain ⟨r_86, h_85, hm⟩ := ob0_some hm
    have hFc := x_free0 hS hA
    refine va_calli (va_runS (As := [.int r_84]) (rest := []) ⟨hx, hb, hml, hown, hts⟩ (x_Heap_number l H.size n h_85) (va_cwS 1 hts (tw_GS tw_cons cw_Heap_number lk_Deeds_127 st_Heap_number ini_Heap) rfl rfl rfl hd_Heap_number ⟨Nat.le_of_ble_eq_true rfl, Nat.le_of_ble_eq_true rfl⟩) xpS0 rfl rfl hl.1 rfl (lv_room (Nat.le_of_ble_eq_true rfl)) d_Deeds_turtleWord_275 ⟨Nat.le_of_ble_eq_true rfl, Nat.le_of_ble_eq_true rfl⟩) hS (fun q _ h => hFc q h) hFc (fun r9 u9 t9 H locs ht hvm e9 hB hz1 hk1 hS => ?_)
    have e9 : r_86 = r9 := e9
    subst e9
    replace hP := x_keep hP hk1
    clear hFc hk1 hz1 hvm hB ht
    obtain ⟨e1i, e1a, e3⟩ := re3 hm
    obtain ⟨hP, hD⟩ := x_eq e1i e1a hP hD
    exact W.iret hx hb hr (fun t9 ht hW => ⟨⟨_, (), rfl, e3.symm, by rw [ht]; exact hP, hD⟩, hS.F ht⟩) hS.2.2 d_Deeds_turtleWord_278
  replace hm := if_f c_82 hm
  rcases Classical.em (v1 = 17) with c_87 | c_87
  · replace hm := if_t c_87 hm
    refine lv_tableIn (x := v1) (tgt := 279) hx hb d_Deeds_turtleWord_23 (by rw [c_87]; decide) (by rw [c_87]; decide) (by rw [c_87]; rfl) (by decide) ?_
    refine lv_aload_n hx hb d_Deeds_turtleWord_279 rfl (lv_at hl 2 rfl) ?_
    refine va_get (D := (dC, dI)) (ci := 10) (v := .ref ((u 5))) (C := R_Deeds) (T := F_Deeds) (N := 8) hx hb htt iw_Deeds hown hK hP 10 xo_10 rfl 5 (Nat.le_of_ble_eq_true rfl) (htt _ lk_Deeds_34) (fun _ h9 => h9) xg_10_5 d_Deeds_turtleWord_280 ?_
    refine va_get (D := (dC, dI)) (ci := 5) (v := .int (i 17)) (C := R_Turtles) (T := F_Turtles) (N := 8) hx hb htt iw_Turtles hown hK hP 5 xo_5 rfl 2 (Nat.le_of_ble_eq_true rfl) (htt _ lk_Deeds_121) (fun _ h9 => h9) xg_5_2 d_Deeds_turtleWord_283 ?_
    obtain ⟨r_89, h_88, hm⟩ := ob0_some hm
    have hFc := x_free0 hS hA
    refine va_calli (va_runS (As := [.int (i 17)]) (rest := []) ⟨hx, hb, hml, hown, hts⟩ (x_Heap_number l H.size n h_88) (va_cwS 1 hts (tw_GS tw_cons cw_Heap_number lk_Deeds_127 st_Heap_number ini_Heap) rfl rfl rfl hd_Heap_number ⟨Nat.le_of_ble_eq_true rfl, Nat.le_of_ble_eq_true rfl⟩) xpS0 rfl rfl hl.1 rfl (lv_room (Nat.le_of_ble_eq_true rfl)) d_Deeds_turtleWord_286 ⟨Nat.le_of_ble_eq_true rfl, Nat.le_of_ble_eq_true rfl⟩) hS (fun q _ h => hFc q h) hFc (fun r9 u9 t9 H locs ht hvm e9 hB hz1 hk1 hS => ?_)
    have e9 : r_89 = r9 := e9
    subst e9
    replace hP := x_keep hP hk1
    clear hFc hk1 hz1 hvm hB ht
    obtain ⟨e1i, e1a, e3⟩ := re3 hm
    obtain ⟨hP, hD⟩ := x_eq e1i e1a hP hD
    exact W.iret hx hb hr (fun t9 ht hW => ⟨⟨_, (), rfl, e3.symm, by rw [ht]; exact hP, hD⟩, hS.F ht⟩) hS.2.2 d_Deeds_turtleWord_289
  replace hm := if_f c_87 hm
  rcases Classical.em (v1 = 18) with c_90 | c_90
  · replace hm := if_t c_90 hm
    refine lv_tableIn (x := v1) (tgt := 290) hx hb d_Deeds_turtleWord_23 (by rw [c_90]; decide) (by rw [c_90]; decide) (by rw [c_90]; rfl) (by decide) ?_
    refine lv_aload_n hx hb d_Deeds_turtleWord_290 rfl (lv_at hl 2 rfl) ?_
    refine va_get (D := (dC, dI)) (ci := 10) (v := .ref ((u 5))) (C := R_Deeds) (T := F_Deeds) (N := 8) hx hb htt iw_Deeds hown hK hP 10 xo_10 rfl 5 (Nat.le_of_ble_eq_true rfl) (htt _ lk_Deeds_34) (fun _ h9 => h9) xg_10_5 d_Deeds_turtleWord_291 ?_
    obtain ⟨r_92, h_91, hm⟩ := ob0_some hm
    have hFc := x_free0 hS hA
    refine va_calli (va_runV (As := []) (rest := []) ⟨hx, hb, hml, hown, hts⟩ (x_Turtles_colourBelow l dC dI cI adK adV adA u o g H.size n h_91) (cwV 0 hts (tw_GV tw_cons cw_Turtles_colourBelow lk_Deeds_136 in_Turtles_colourBelow sel_Turtles_colourBelow ini_Turtles) rfl rfl rfl ⟨rfl, hd_Turtles_colourBelow⟩ ⟨Nat.le_of_ble_eq_true rfl, Nat.le_of_ble_eq_true rfl⟩) (xpVr hK hP hS hE hFc xo_5 rfl) rfl rfl hl.1 rfl (lv_room (Nat.le_of_ble_eq_true rfl)) d_Deeds_turtleWord_294 ⟨Nat.le_of_ble_eq_true rfl, Nat.le_of_ble_eq_true rfl⟩) hS (fun q _ h => hFc q h) hFc (fun r9 u9 t9 H locs ht hvm e9 hB hz1 hk1 hS => ?_)
    have e9 : r_92 = r9 := e9
    subst e9
    replace hP := x_keep hP hk1
    clear hFc hk1 hz1 hvm hB ht
    obtain ⟨r_94, h_93, hm⟩ := ob0_some hm
    have hFc := x_free0 hS hA
    refine va_calli (va_runS (As := [.int r_92]) (rest := []) ⟨hx, hb, hml, hown, hts⟩ (x_Heap_number l H.size n h_93) (va_cwS 1 hts (tw_GS tw_cons cw_Heap_number lk_Deeds_127 st_Heap_number ini_Heap) rfl rfl rfl hd_Heap_number ⟨Nat.le_of_ble_eq_true rfl, Nat.le_of_ble_eq_true rfl⟩) xpS0 rfl rfl hl.1 rfl (lv_room (Nat.le_of_ble_eq_true rfl)) d_Deeds_turtleWord_297 ⟨Nat.le_of_ble_eq_true rfl, Nat.le_of_ble_eq_true rfl⟩) hS (fun q _ h => hFc q h) hFc (fun r9 u9 t9 H locs ht hvm e9 hB hz1 hk1 hS => ?_)
    have e9 : r_94 = r9 := e9
    subst e9
    replace hP := x_keep hP hk1
    clear hFc hk1 hz1 hvm hB ht
    obtain ⟨e1i, e1a, e3⟩ := re3 hm
    obtain ⟨hP, hD⟩ := x_eq e1i e1a hP hD
    exact W.iret hx hb hr (fun t9 ht hW => ⟨⟨_, (), rfl, e3.symm, by rw [ht]; exact hP, hD⟩, hS.F ht⟩) hS.2.2 d_Deeds_turtleWord_300
  replace hm := if_f c_90 hm
  rcases Classical.em (v1 = 19) with c_95 | c_95
  · replace hm := if_t c_95 hm
    refine lv_tableIn (x := v1) (tgt := 301) hx hb d_Deeds_turtleWord_23 (by rw [c_95]; decide) (by rw [c_95]; decide) (by rw [c_95]; rfl) (by decide) ?_
    refine lv_aload_n hx hb d_Deeds_turtleWord_301 rfl (lv_at hl 2 rfl) ?_
    refine lv_iload_n hx hb d_Deeds_turtleWord_302 rfl (lv_at hl 1 rfl) ?_
    refine lv_iload_n hx hb d_Deeds_turtleWord_303 rfl (lv_at hl 0 rfl) ?_
    obtain ⟨r_97, h_96, hm⟩ := ob0_some hm
    have hFc := x_free0 hS hA
    refine va_calli (va_runV (As := [.int x_3, .int x_6]) (rest := []) ⟨hx, hb, hml, hown, hts⟩ (x_Deeds_same l dC dI cI adK adV adA u o g H.size n h_96) (cwV 2 hts (tw_GV tw_cons cw_Deeds_same lk_Deeds_139 in_Deeds_same sel_Deeds_same ini_Deeds) rfl rfl rfl ⟨rfl, hd_Deeds_same⟩ ⟨Nat.le_of_ble_eq_true rfl, Nat.le_of_ble_eq_true rfl⟩) (xpVr hK hP hS hE hFc xo_10 rfl) rfl rfl hl.1 rfl (lv_room (Nat.le_of_ble_eq_true rfl)) d_Deeds_turtleWord_304 ⟨Nat.le_of_ble_eq_true rfl, Nat.le_of_ble_eq_true rfl⟩) hS (fun q _ h => hFc q h) hFc (fun r9 u9 t9 H locs ht hvm e9 hB hz1 hk1 hS => ?_)
    have e9 : r_97 = r9 := e9
    subst e9
    replace hP := x_keep hP hk1
    clear hFc hk1 hz1 hvm hB ht
    obtain ⟨e1i, e1a, e3⟩ := re3 hm
    obtain ⟨hP, hD⟩ := x_eq e1i e1a hP hD
    exact W.iret hx hb hr (fun t9 ht hW => ⟨⟨_, (), rfl, e3.symm, by rw [ht]; exact hP, hD⟩, hS.F ht⟩) hS.2.2 d_Deeds_turtleWord_307
  replace hm := if_f c_95 hm
  refine lv_tableOut (x := v1) (tgt := 308) hx hb d_Deeds_turtleWord_23 (by have q0 := lv_neT c_7 (show (1 : Int32).toInt = 1 from by decide); have q1 := lv_neT c_12 (show (2 : Int32).toInt = 2 from by decide); have q2 := lv_neT c_17 (show (3 : Int32).toInt = 3 from by decide); have q3 := lv_neT c_22 (show (4 : Int32).toInt = 4 from by decide); have q4 := lv_neT c_27 (show (5 : Int32).toInt = 5 from by decide); have q5 := lv_neT c_32 (show (6 : Int32).toInt = 6 from by decide); have q6 := lv_neT c_37 (show (7 : Int32).toInt = 7 from by decide); have q7 := lv_neT c_42 (show (8 : Int32).toInt = 8 from by decide); have q8 := lv_neT c_47 (show (9 : Int32).toInt = 9 from by decide); have q9 := lv_neT c_52 (show (10 : Int32).toInt = 10 from by decide); have q10 := lv_neT c_57 (show (11 : Int32).toInt = 11 from by decide); have q11 := lv_neT c_62 (show (12 : Int32).toInt = 12 from by decide); have q12 := lv_neT c_67 (show (13 : Int32).toInt = 13 from by decide); have q13 := lv_neT c_72 (show (14 : Int32).toInt = 14 from by decide); have q14 := lv_neT c_77 (show (15 : Int32).toInt = 15 from by decide); have q15 := lv_neT c_82 (show (16 : Int32).toInt = 16 from by decide); have q16 := lv_neT c_87 (show (17 : Int32).toInt = 17 from by decide); have q17 := lv_neT c_90 (show (18 : Int32).toInt = 18 from by decide); have q18 := lv_neT c_95 (show (19 : Int32).toInt = 19 from by decide); omega) (by decide) ?_
  refine lv_ldc (v := (-2147483647)) hx hb hown (htt _ lk_Deeds_142) d_Deeds_turtleWord_308 ?_
  obtain ⟨e1i, e1a, e3⟩ := re3 hm
  obtain ⟨hP, hD⟩ := x_eq e1i e1a hP hD
  exact W.iret hx hb hr (fun t9 ht hW => ⟨⟨_, (), rfl, e3.symm, by rw [ht]; exact hP, hD⟩, hS.F ht⟩) hS.2.2 d_Deeds_turtleWord_310

def m_Deeds_valueWord_b291 (n : Nat) (i : Nat → Int32) (a : Nat → Nat → Int32) (g : Nat → Nat) (v3 : Int32) (s0 : Int32) (s1 : Int32) : Option ((Nat → Int32) × (Nat → Nat → Int32) × (Nat → Nat) × (Nat × Nat) × Int32) := ob0 (m_Heap_isList n v3) (fun r_2 => if r_2 = ((0 : Int32)) then obG (m_Deeds_join n g i a s1 s0 v3 (1 : Int32)) (fun i_17 a_18 g_19 r_21 => some (i_17, a_18, g_19, (0, 0), r_21)) else obG (m_Deeds_join n g i a s1 s0 v3 (0 : Int32)) (fun i_7 a_8 g_9 r_11 => some (i_7, a_8, g_9, (0, 0), r_11)))
set_option maxHeartbeats 4000000 in
set_option maxRecDepth 100000 in
theorem lb_Deeds_valueWord_291 (l : Launch) (dC : Nat → ClassId) (dI : Nat → Nat → Nat) (cI : ClassId) (adK adV adA u : Nat → Nat) (n : Nat) {p : Program} {e : Env} {s : State} {m : MethodId} {args : Array Value} {below : List Frame} {meth : Method} {c : Code} {A : Nat → Prop} (hx : p.tables.exec = Jvm.exec) (hb : c.code = b_Deeds_valueWord) (hml : c.maxLocals = 4) (hown : s.vm.findClass R_Deeds = some m.cls) (hts : ∀ w ∈ w_Deeds_valueWord, w.before args s = true) (hK : va_K (dC, dI) classes [(cI, .int)] s) (hE : tw_E adK adV adA A s s.heap) (hA : ∀ q : Nat, s.heap.size ≤ q → A q) (hr : meth.sig.returnType = (some .int)) (hlocks : meth.locks = false) {mc ms : Nat} {i2 : Nat → Int32} {a2 : Nat → Nat → Int32} {g2 : Nat → Nat} {r2 : Int32} (i : Nat → Int32) (a : Nat → Nat → Int32) (g : Nat → Nat) (v3 : Int32) (s0 : Int32) (s1 : Int32) (k2 : Nat × Nat) (hm : m_Deeds_valueWord_b291 n i a g v3 s0 s1 = some (i2, a2, g2, k2, r2)) : ∀ (o : Nat → Nat) (kc ks : Nat), kc + k2.1 = mc → ks + k2.2 = ms → ∀ (H : Heap) (locs : List Loc) (ls : Array Slot), va_P (dC, dI) classes (TW cI u o i a g) H → va_D A (TW cI u o i a g) → va_S A s.heap H locs → lv_has ls 4 [(3, .int v3)] → W p l e ({ frames := 6, cells := mc, slots := ms, locals := 159 } : Room) s m args below meth c H locs kc ks (MQ below (va_Qi (xRg r2) (xBg dC dI cI u g2 i2 a2 A) A) args s mc ms A) (F0 m 291 ls [.int s0, .int s1, .ref ((u 10))]) := by
  have htt : ∀ w ∈ tw_T, w.before _ s = true := fun w h => hts w (List.mem_cons_of_mem _ h)
  intro o kc ks hkc hks H locs ls hP hD hS hl
  rw [m_Deeds_valueWord_b291] at hm
  refine lv_iload_n hx hb d_Deeds_valueWord_291 rfl (lv_at hl 0 rfl) ?_
  refine lv_iload_n hx hb d_Deeds_valueWord_292 rfl (lv_at hl 0 rfl) ?_
  obtain ⟨r_2, h_1, hm⟩ := ob0_some hm
  have hFc := x_free0 hS hA
  refine xg_calli (va_runS (As := [.int v3]) (rest := [.int v3, .int s0, .int s1, .ref ((u 10))]) ⟨hx, hb, hml, hown, hts⟩ (x_Heap_isList l H.size n h_1) (va_cwS 1 hts (tw_GS tw_cons cw_Heap_isList lk_Deeds_75 st_Heap_isList ini_Heap) rfl rfl rfl hd_Heap_isList ⟨Nat.le_of_ble_eq_true rfl, Nat.le_of_ble_eq_true rfl⟩) xpS0 rfl rfl hl.1 rfl (lv_room (Nat.le_of_ble_eq_true rfl)) d_Deeds_valueWord_293 ⟨show kc + 0 ≤ mc by omega, show ks + 0 ≤ ms by omega⟩) hS (fun q _ h => hFc q h) hFc (fun kc_3 ks_4 r9 u9 t9 H locs ekc eks ht hvm e9 hB hz1 hk1 hS => ?_)
  replace hkc : kc_3 + k2.1 = mc := by omega
  replace hks : ks_4 + k2.2 = ms := by omega
  clear ekc eks
  have e9 : r_2 = r9 := e9
  subst e9
  replace hP := x_keep hP hk1
  clear hFc hk1 hz1 hvm hB ht
  refine lv_if_ne (tgt := 303) hx hb d_Deeds_valueWord_296 (by decide) (fun c_5 => ?_) (fun c_5 => ?_)
  · replace hm := if_f c_5 hm
    refine lv_iconst (v := 0) hx hb d_Deeds_valueWord_303 (by decide) ?_
    obtain ⟨i_7, a_8, g_9, k_10, r_11, k_12, h_6, hm, e7, e8⟩ := obG_some hm
    have hFc := x_free hD hS hA
    refine xg_calli (va_runV (As := [.int s1, .int s0, .int v3, .int 0]) (rest := []) ⟨hx, hb, hml, hown, hts⟩ (x_Deeds_join l dC dI cI adK adV adA u o g H.size n h_6) (cwV 4 hts (tw_GV tw_cons cw_Deeds_join lk_Deeds_183 in_Deeds_join sel_Deeds_join ini_Deeds) rfl rfl rfl ⟨rfl, hd_Deeds_join⟩ ⟨Nat.le_of_ble_eq_true rfl, Nat.le_of_ble_eq_true rfl⟩) (xpV hK hP hD hS hE hFc xo_10 rfl) rfl rfl hl.1 rfl (lv_room (Nat.le_of_ble_eq_true rfl)) d_Deeds_valueWord_304 ⟨show kc_3 + k_10.1 ≤ mc by omega, show ks_4 + k_10.2 ≤ ms by omega⟩) hS (fun q _ h => hFc q h) hFc (fun kc_14 ks_15 r9 o_13 t9 H locs ekc eks ht hvm e9 hB hz1 hk1 hS => ?_)
    replace hkc : kc_14 + k_12.1 = mc := by omega
    replace hks : ks_15 + k_12.2 = ms := by omega
    clear e7 e8
    clear ekc eks
    have e9 : r_11 = r9 := e9
    subst e9
    obtain ⟨hP, hD⟩ := x_aftg hB ht hFc
    clear hFc hk1 hz1 hvm hB ht
    obtain ⟨e1, e2, e4, e5, e6, e3⟩ := re5 hm
    obtain ⟨hP, hD⟩ := x_eqg e1 e2 e4 hP hD
    refine W.widen (k := mc) (n := ms) (show kc_14 ≤ mc by omega) (show ks_15 ≤ ms by omega) ?_
    exact W.iret hx hb hr (fun t9 ht hW => ⟨⟨_, o_13, rfl, e3.symm, by rw [ht]; exact hP, hD⟩, hS.F ht⟩) hS.2.2 d_Deeds_valueWord_307
  · replace hm := if_t c_5 hm
    refine lv_iconst (v := 1) hx hb d_Deeds_valueWord_299 (by decide) ?_
    refine lv_goto (tgt := 304) hx hb d_Deeds_valueWord_300 (by decide) ?_
    obtain ⟨i_17, a_18, g_19, k_20, r_21, k_22, h_16, hm, e7, e8⟩ := obG_some hm
    have hFc := x_free hD hS hA
    refine xg_calli (va_runV (As := [.int s1, .int s0, .int v3, .int 1]) (rest := []) ⟨hx, hb, hml, hown, hts⟩ (x_Deeds_join l dC dI cI adK adV adA u o g H.size n h_16) (cwV 4 hts (tw_GV tw_cons cw_Deeds_join lk_Deeds_183 in_Deeds_join sel_Deeds_join ini_Deeds) rfl rfl rfl ⟨rfl, hd_Deeds_join⟩ ⟨Nat.le_of_ble_eq_true rfl, Nat.le_of_ble_eq_true rfl⟩) (xpV hK hP hD hS hE hFc xo_10 rfl) rfl rfl hl.1 rfl (lv_room (Nat.le_of_ble_eq_true rfl)) d_Deeds_valueWord_304 ⟨show kc_3 + k_20.1 ≤ mc by omega, show ks_4 + k_20.2 ≤ ms by omega⟩) hS (fun q _ h => hFc q h) hFc (fun kc_24 ks_25 r9 o_23 t9 H locs ekc eks ht hvm e9 hB hz1 hk1 hS => ?_)
    replace hkc : kc_24 + k_22.1 = mc := by omega
    replace hks : ks_25 + k_22.2 = ms := by omega
    clear e7 e8
    clear ekc eks
    have e9 : r_21 = r9 := e9
    subst e9
    obtain ⟨hP, hD⟩ := x_aftg hB ht hFc
    clear hFc hk1 hz1 hvm hB ht
    obtain ⟨e1, e2, e4, e5, e6, e3⟩ := re5 hm
    obtain ⟨hP, hD⟩ := x_eqg e1 e2 e4 hP hD
    refine W.widen (k := mc) (n := ms) (show kc_24 ≤ mc by omega) (show ks_25 ≤ ms by omega) ?_
    exact W.iret hx hb hr (fun t9 ht hW => ⟨⟨_, o_23, rfl, e3.symm, by rw [ht]; exact hP, hD⟩, hS.F ht⟩) hS.2.2 d_Deeds_valueWord_307
def m_Deeds_valueWord (n : Nat) (g : Nat → Nat) (i : Nat → Int32) (a : Nat → Nat → Int32) (v1 : Int32) : Option ((Nat → Int32) × (Nat → Nat → Int32) × (Nat → Nat) × (Nat × Nat) × Int32) := ob0 (m_Waiting_input n g i a (0 : Int32)) (fun r_2 => ob0 (m_Waiting_input n g i a (1 : Int32)) (fun r_6 => if v1 = 32 then ob (m_Heap_equal n g i a r_2 r_6) (fun i_11 a_12 r_13 => ob0 (m_Heap_truth n g i_11 a_12 r_13) (fun r_17 => some (i_11, a_12, g, (0, 0), r_17))) else if v1 = 33 then ob0 (m_Heap_isList n r_2) (fun r_22 => ob0 (m_Heap_truth n g i a r_22) (fun r_26 => some (i, a, g, (0, 0), r_26))) else if v1 = 34 then ob0 (m_Heap_isWord n r_2) (fun r_31 => ob0 (m_Heap_truth n g i a r_31) (fun r_35 => some (i, a, g, (0, 0), r_35))) else if v1 = 35 then ob0 (m_Heap_isNumber n r_2) (fun r_40 => ob0 (m_Heap_truth n g i a r_40) (fun r_44 => some (i, a, g, (0, 0), r_44))) else if v1 = 36 then ob0 (m_Heap_isList n r_2) (fun r_49 => if r_49 = ((0 : Int32)) then ob0 (m_Heap_number n (1 : Int32)) (fun r_54 => some (i, a, g, (0, 0), r_54)) else ob0 (m_Heap_count n g i a r_2) (fun r_58 => ob0 (m_Heap_number n r_58) (fun r_62 => some (i, a, g, (0, 0), r_62)))) else if v1 = 37 then ob0 (m_Heap_count n g i a r_2) (fun r_67 => if r_67 = ((0 : Int32)) then ob0 (m_Heap_truth n g i a (1 : Int32)) (fun r_76 => some (i, a, g, (0, 0), r_76)) else ob0 (m_Heap_truth n g i a (0 : Int32)) (fun r_72 => some (i, a, g, (0, 0), r_72))) else if v1 = 38 then ob0 (m_Deeds_item n g i a (1 : Int32) r_2) (fun r_81 => some (i, a, g, (0, 0), r_81)) else if v1 = 39 then ob0 (m_Heap_count n g i a r_2) (fun r_86 => ob0 (m_Deeds_item n g i a r_86 r_2) (fun r_90 => some (i, a, g, (0, 0), r_90))) else if v1 = 40 then obG (m_Deeds_without n g i a r_2 (0 : Int32) (1 : Int32)) (fun i_95 a_96 g_97 r_99 => some (i_95, a_96, g_97, (0, 0), r_99)) else if v1 = 41 then ob0 (m_Heap_count n g i a r_2) (fun r_106 => obG (m_Deeds_without n g i a r_2 (r_106 - 1) (0 : Int32)) (fun i_110 a_111 g_112 r_114 => some (i_110, a_111, g_112, (0, 0), r_114))) else if v1 = 42 then ob0 (m_Deeds_item n g i a (r_2 >>> ((1 : Int32) &&& 31)) r_6) (fun r_121 => some (i, a, g, (0, 0), r_121)) else if v1 = 43 then obG (m_Deeds_join n g i a r_2 (1 : Int32) r_6 (0 : Int32)) (fun i_126 a_127 g_128 r_130 => some (i_126, a_127, g_128, (0, 0), r_130)) else if v1 = 44 then obG (m_Deeds_join n g i a r_6 (0 : Int32) r_2 (1 : Int32)) (fun i_137 a_138 g_139 r_141 => some (i_137, a_138, g_139, (0, 0), r_141)) else if v1 = 45 then ob0 (m_Heap_isList n r_2) (fun r_148 => if r_148 = ((0 : Int32)) then m_Deeds_valueWord_b291 n i a g r_6 (1 : Int32) r_2 else m_Deeds_valueWord_b291 n i a g r_6 (0 : Int32) r_2) else if v1 = 46 then obG (m_Deeds_join n g i a r_2 (1 : Int32) r_6 (1 : Int32)) (fun i_154 a_155 g_156 r_158 => some (i_154, a_155, g_156, (0, 0), r_158)) else if v1 = 47 then ob (m_Deeds_isMember n g i a r_2 r_6) (fun i_165 a_166 r_167 => ob0 (m_Heap_truth n g i_165 a_166 r_167) (fun r_171 => some (i_165, a_166, g, (0, 0), r_171))) else if v1 = 48 then obG (m_Deeds_reverse n g i a r_2) (fun i_176 a_177 g_178 r_180 => some (i_176, a_177, g_178, (0, 0), r_180)) else if v1 = 49 then obG (m_Deeds_joinLetters n g i a r_2 r_6) (fun i_187 a_188 g_189 r_191 => some (i_187, a_188, g_189, (0, 0), r_191)) else some (i, a, g, (0, 0), (-2147483647))))
set_option maxHeartbeats 4000000 in
set_option maxRecDepth 100000 in
theorem x_Deeds_valueWord (l : Launch) (dC : Nat → ClassId) (dI : Nat → Nat → Nat) (cI : ClassId) (adK adV adA u o g : Nat → Nat) (sz : Nat) (n : Nat) {i : Nat → Int32} {a : Nat → Nat → Int32} {v1 : Int32} {i2 : Nat → Int32} {a2 : Nat → Nat → Int32} {g2 : Nat → Nat} {k2 : Nat × Nat} {r2 : Int32} (hm : m_Deeds_valueWord n g i a v1 = some (i2, a2, g2, k2, r2)) : Met l y_Deeds_valueWord w_Deeds_valueWord ({ frames := 6, cells := k2.1, slots := k2.2, locals := 159 } : Room) (va_Pc [.ref ((u 10)), .int v1] (xE dC dI cI adK adV adA u o g i a sz)) (va_Qi (xRg r2) (xBg dC dI cI u g2 i2 a2 (va_A (TW cI u o i a g) sz)) (va_A (TW cI u o i a g) sz)) k2.1 k2.2 ((va_A (TW cI u o i a g) sz)) := by
  refine Met.ofW (cc := b_Deeds_valueWord) (maxL := 4) (ret := (some .int)) (by decide) rfl ?_
  intro p e s m args below meth c s₁ B hml hv
  obtain ⟨rfl, hsz, hP, hK, hE, hD0⟩ := hv
  have hx := B.exec
  have hb := B.bytes
  have hr := B.returns
  have hts := atoms_spec (ws := w_Deeds_valueWord) B.pre
  have htt : ∀ w ∈ tw_T, w.before _ s = true := fun w h => hts w (List.mem_cons_of_mem _ h)
  have hown : s.vm.findClass R_Deeds = some m.cls := findClass_of_methodNamed B.named
  have hlocks := B.notSynchronized
  subst hsz
  have hD := hD0.self (sz := s.heap.size)
  generalize hAe : (va_A (TW cI u o i a g) s.heap.size) = A at hD hE ⊢
  have hA : ∀ q : Nat, s.heap.size ≤ q → A q := fun q h => by rw [← hAe]; exact Or.inr h
  have hS : va_S A s.heap s.heap [] := va_S.rf
  obtain ⟨mc, ms, emc, ems⟩ : ∃ mc ms : Nat, k2.1 = mc ∧ k2.2 = ms := ⟨_, _, rfl, rfl⟩
  have hkc : 0 + k2.1 = mc := by rw [Nat.zero_add]; exact emc
  have hks : 0 + k2.2 = ms := by rw [Nat.zero_add]; exact ems
  rw [emc, ems]
  clear emc ems
  have hl := lv_entry ([.ref ((u 10)), .int v1]) (n := 4) (Nat.le_of_ble_eq_true rfl)
  rw [lg_entry_eq]
  generalize (lg_sl ([.ref ((u 10)), .int v1]) ++ List.replicate (4 - (lg_sl ([.ref ((u 10)), .int v1])).length) Slot.unset).toArray = ls at hl ⊢
  have hl : lv_has ls 4 [(0, .ref ((u 10))), (1, .int v1)] := hl
  rw [m_Deeds_valueWord] at hm
  refine lv_aload_n hx hb d_Deeds_valueWord_0 rfl (lv_at hl 0 rfl) ?_
  refine va_get (D := (dC, dI)) (ci := 10) (v := .ref ((u 9))) (C := R_Deeds) (T := F_Deeds) (N := 8) hx hb htt iw_Deeds hown hK hP 10 xo_10 rfl 2 (Nat.le_of_ble_eq_true rfl) (htt _ lk_Deeds_22) (fun _ h9 => h9) xg_10_2 d_Deeds_valueWord_1 ?_
  refine lv_iconst (v := 0) hx hb d_Deeds_valueWord_4 (by decide) ?_
  obtain ⟨r_2, h_1, hm⟩ := ob0_some hm
  have hFc := x_free0 hS hA
  refine xg_calli (va_runV (As := [.int 0]) (rest := []) ⟨hx, hb, hml, hown, hts⟩ (x_Waiting_input l dC dI cI adK adV adA u o g s.heap.size n h_1) (cwV 1 hts (tw_GV tw_cons cw_Waiting_input lk_Deeds_62 in_Waiting_input sel_Waiting_input ini_Waiting) rfl rfl rfl ⟨rfl, hd_Waiting_input⟩ ⟨Nat.le_of_ble_eq_true rfl, Nat.le_of_ble_eq_true rfl⟩) (xpVr hK hP hS hE hFc xo_9 rfl) rfl rfl hl.1 rfl (lv_room (Nat.le_of_ble_eq_true rfl)) d_Deeds_valueWord_5 ⟨show 0 + 0 ≤ mc by omega, show 0 + 0 ≤ ms by omega⟩) hS (fun q _ h => hFc q h) hFc (fun kc_3 ks_4 r9 u9 t9 H locs ekc eks ht hvm e9 hB hz1 hk1 hS => ?_)
  replace hkc : kc_3 + k2.1 = mc := by omega
  replace hks : ks_4 + k2.2 = ms := by omega
  clear ekc eks
  have e9 : r_2 = r9 := e9
  subst e9
  replace hP := x_keep hP hk1
  clear hFc hk1 hz1 hvm hB ht
  refine lv_istore_n (lv' := [(2, .int r_2), (0, .ref ((u 10))), (1, .int v1)]) hx hb d_Deeds_valueWord_8 rfl hl (by decide) rfl (fun ls hl => ?_)
  refine lv_aload_n hx hb d_Deeds_valueWord_9 rfl (lv_at hl 1 rfl) ?_
  refine va_get (D := (dC, dI)) (ci := 10) (v := .ref ((u 9))) (C := R_Deeds) (T := F_Deeds) (N := 8) hx hb htt iw_Deeds hown hK hP 10 xo_10 rfl 2 (Nat.le_of_ble_eq_true rfl) (htt _ lk_Deeds_22) (fun _ h9 => h9) xg_10_2 d_Deeds_valueWord_10 ?_
  refine lv_iconst (v := 1) hx hb d_Deeds_valueWord_13 (by decide) ?_
  obtain ⟨r_6, h_5, hm⟩ := ob0_some hm
  have hFc := x_free0 hS hA
  refine xg_calli (va_runV (As := [.int 1]) (rest := []) ⟨hx, hb, hml, hown, hts⟩ (x_Waiting_input l dC dI cI adK adV adA u o g H.size n h_5) (cwV 1 hts (tw_GV tw_cons cw_Waiting_input lk_Deeds_62 in_Waiting_input sel_Waiting_input ini_Waiting) rfl rfl rfl ⟨rfl, hd_Waiting_input⟩ ⟨Nat.le_of_ble_eq_true rfl, Nat.le_of_ble_eq_true rfl⟩) (xpVr hK hP hS hE hFc xo_9 rfl) rfl rfl hl.1 rfl (lv_room (Nat.le_of_ble_eq_true rfl)) d_Deeds_valueWord_14 ⟨show kc_3 + 0 ≤ mc by omega, show ks_4 + 0 ≤ ms by omega⟩) hS (fun q _ h => hFc q h) hFc (fun kc_7 ks_8 r9 u9 t9 H locs ekc eks ht hvm e9 hB hz1 hk1 hS => ?_)
  replace hkc : kc_7 + k2.1 = mc := by omega
  replace hks : ks_8 + k2.2 = ms := by omega
  clear ekc eks
  have e9 : r_6 = r9 := e9
  subst e9
  replace hP := x_keep hP hk1
  clear hFc hk1 hz1 hvm hB ht
  refine lv_istore_n (lv' := [(3, .int r_6), (2, .int r_2), (0, .ref ((u 10))), (1, .int v1)]) hx hb d_Deeds_valueWord_17 rfl hl (by decide) rfl (fun ls hl => ?_)
  refine lv_iload_n hx hb d_Deeds_valueWord_18 rfl (lv_at hl 3 rfl) ?_
  rcases Classical.em (v1 = 32) with c_9 | c_9
  · replace hm := if_t c_9 hm
    refine lv_tableIn (x := v1) (tgt := 104) hx hb d_Deeds_valueWord_19 (by rw [c_9]; decide) (by rw [c_9]; decide) (by rw [c_9]; rfl) (by decide) ?_
    refine lv_aload_n hx hb d_Deeds_valueWord_104 rfl (lv_at hl 2 rfl) ?_
    refine va_get (D := (dC, dI)) (ci := 10) (v := .ref ((u 1))) (C := R_Deeds) (T := F_Deeds) (N := 8) hx hb htt iw_Deeds hown hK hP 10 xo_10 rfl 0 (Nat.le_of_ble_eq_true rfl) (htt _ lk_Deeds_15) (fun _ h9 => h9) xg_10_0 d_Deeds_valueWord_105 ?_
    refine lv_aload_n hx hb d_Deeds_valueWord_108 rfl (lv_at hl 2 rfl) ?_
    refine va_get (D := (dC, dI)) (ci := 10) (v := .ref ((u 1))) (C := R_Deeds) (T := F_Deeds) (N := 8) hx hb htt iw_Deeds hown hK hP 10 xo_10 rfl 0 (Nat.le_of_ble_eq_true rfl) (htt _ lk_Deeds_15) (fun _ h9 => h9) xg_10_0 d_Deeds_valueWord_109 ?_
    refine lv_iload_n hx hb d_Deeds_valueWord_112 rfl (lv_at hl 1 rfl) ?_
    refine lv_iload_n hx hb d_Deeds_valueWord_113 rfl (lv_at hl 0 rfl) ?_
    obtain ⟨i_11, a_12, r_13, h_10, hm⟩ := ob_some hm
    have hFc := x_free hD hS hA
    refine xg_calli (va_runV (As := [.int r_2, .int r_6]) (rest := [.ref ((u 1))]) ⟨hx, hb, hml, hown, hts⟩ (x_Heap_equal l dC dI cI adK adV adA u o g H.size n h_10) (cwV 2 hts (tw_GV tw_cons cw_Heap_equal lk_Deeds_170 in_Heap_equal sel_Heap_equal ini_Heap) rfl rfl rfl ⟨rfl, hd_Heap_equal⟩ ⟨Nat.le_of_ble_eq_true rfl, Nat.le_of_ble_eq_true rfl⟩) (xpV hK hP hD hS hE hFc xo_1 rfl) rfl rfl hl.1 rfl (lv_room (Nat.le_of_ble_eq_true rfl)) d_Deeds_valueWord_114 ⟨show kc_7 + 0 ≤ mc by omega, show ks_8 + 0 ≤ ms by omega⟩) hS (fun q _ h => hFc q h) hFc (fun kc_14 ks_15 r9 u9 t9 H locs ekc eks ht hvm e9 hB hz1 hk1 hS => ?_)
    replace hkc : kc_14 + k2.1 = mc := by omega
    replace hks : ks_15 + k2.2 = ms := by omega
    clear ekc eks
    have e9 : r_13 = r9 := e9
    subst e9
    obtain ⟨hP, hD⟩ := x_aft hB ht hFc
    clear hFc hk1 hz1 hvm hB ht
    obtain ⟨r_17, h_16, hm⟩ := ob0_some hm
    have hFc := x_free0 hS hA
    refine xg_calli (va_runV (As := [.int r_13]) (rest := []) ⟨hx, hb, hml, hown, hts⟩ (x_Heap_truth l dC dI cI adK adV adA u o g H.size n h_16) (cwV 1 hts (tw_GV tw_cons cw_Heap_truth lk_Deeds_150 in_Heap_truth sel_Heap_truth ini_Heap) rfl rfl rfl ⟨rfl, hd_Heap_truth⟩ ⟨Nat.le_of_ble_eq_true rfl, Nat.le_of_ble_eq_true rfl⟩) (xpVr hK hP hS hE hFc xo_1 rfl) rfl rfl hl.1 rfl (lv_room (Nat.le_of_ble_eq_true rfl)) d_Deeds_valueWord_117 ⟨show kc_14 + 0 ≤ mc by omega, show ks_15 + 0 ≤ ms by omega⟩) hS (fun q _ h => hFc q h) hFc (fun kc_18 ks_19 r9 u9 t9 H locs ekc eks ht hvm e9 hB hz1 hk1 hS => ?_)
    replace hkc : kc_18 + k2.1 = mc := by omega
    replace hks : ks_19 + k2.2 = ms := by omega
    clear ekc eks
    have e9 : r_17 = r9 := e9
    subst e9
    replace hP := x_keep hP hk1
    clear hFc hk1 hz1 hvm hB ht
    obtain ⟨e1, e2, e4, e5, e6, e3⟩ := re5 hm
    obtain ⟨hP, hD⟩ := x_eqg e1 e2 e4 hP hD
    refine W.widen (k := mc) (n := ms) (show kc_18 ≤ mc by omega) (show ks_19 ≤ ms by omega) ?_
    exact W.iret hx hb hr (fun t9 ht hW => ⟨⟨_, o, rfl, e3.symm, by rw [ht]; exact hP, hD⟩, hS.F ht⟩) hS.2.2 d_Deeds_valueWord_120
  replace hm := if_f c_9 hm
  rcases Classical.em (v1 = 33) with c_20 | c_20
  · replace hm := if_t c_20 hm
    refine lv_tableIn (x := v1) (tgt := 121) hx hb d_Deeds_valueWord_19 (by rw [c_20]; decide) (by rw [c_20]; decide) (by rw [c_20]; rfl) (by decide) ?_
    refine lv_aload_n hx hb d_Deeds_valueWord_121 rfl (lv_at hl 2 rfl) ?_
    refine va_get (D := (dC, dI)) (ci := 10) (v := .ref ((u 1))) (C := R_Deeds) (T := F_Deeds) (N := 8) hx hb htt iw_Deeds hown hK hP 10 xo_10 rfl 0 (Nat.le_of_ble_eq_true rfl) (htt _ lk_Deeds_15) (fun _ h9 => h9) xg_10_0 d_Deeds_valueWord_122 ?_
    refine lv_iload_n hx hb d_Deeds_valueWord_125 rfl (lv_at hl 1 rfl) ?_
    obtain ⟨r_22, h_21, hm⟩ := ob0_some hm
    have hFc := x_free0 hS hA
    refine xg_calli (va_runS (As := [.int r_2]) (rest := [.ref ((u 1))]) ⟨hx, hb, hml, hown, hts⟩ (x_Heap_isList l H.size n h_21) (va_cwS 1 hts (tw_GS tw_cons cw_Heap_isList lk_Deeds_75 st_Heap_isList ini_Heap) rfl rfl rfl hd_Heap_isList ⟨Nat.le_of_ble_eq_true rfl, Nat.le_of_ble_eq_true rfl⟩) xpS0 rfl rfl hl.1 rfl (lv_room (Nat.le_of_ble_eq_true rfl)) d_Deeds_valueWord_126 ⟨show kc_7 + 0 ≤ mc by omega, show ks_8 + 0 ≤ ms by omega⟩) hS (fun q _ h => hFc q h) hFc (fun kc_23 ks_24 r9 u9 t9 H locs ekc eks ht hvm e9 hB hz1 hk1 hS => ?_)
    replace hkc : kc_23 + k2.1 = mc := by omega
    replace hks : ks_24 + k2.2 = ms := by omega
    clear ekc eks
    have e9 : r_22 = r9 := e9
    subst e9
    replace hP := x_keep hP hk1
    clear hFc hk1 hz1 hvm hB ht
    obtain ⟨r_26, h_25, hm⟩ := ob0_some hm
    have hFc := x_free0 hS hA
    refine xg_calli (va_runV (As := [.int r_22]) (rest := []) ⟨hx, hb, hml, hown, hts⟩ (x_Heap_truth l dC dI cI adK adV adA u o g H.size n h_25) (cwV 1 hts (tw_GV tw_cons cw_Heap_truth lk_Deeds_150 in_Heap_truth sel_Heap_truth ini_Heap) rfl rfl rfl ⟨rfl, hd_Heap_truth⟩ ⟨Nat.le_of_ble_eq_true rfl, Nat.le_of_ble_eq_true rfl⟩) (xpVr hK hP hS hE hFc xo_1 rfl) rfl rfl hl.1 rfl (lv_room (Nat.le_of_ble_eq_true rfl)) d_Deeds_valueWord_129 ⟨show kc_23 + 0 ≤ mc by omega, show ks_24 + 0 ≤ ms by omega⟩) hS (fun q _ h => hFc q h) hFc (fun kc_27 ks_28 r9 u9 t9 H locs ekc eks ht hvm e9 hB hz1 hk1 hS => ?_)
    replace hkc : kc_27 + k2.1 = mc := by omega
    replace hks : ks_28 + k2.2 = ms := by omega
    clear ekc eks
    have e9 : r_26 = r9 := e9
    subst e9
    replace hP := x_keep hP hk1
    clear hFc hk1 hz1 hvm hB ht
    obtain ⟨e1, e2, e4, e5, e6, e3⟩ := re5 hm
    obtain ⟨hP, hD⟩ := x_eqg e1 e2 e4 hP hD
    refine W.widen (k := mc) (n := ms) (show kc_27 ≤ mc by omega) (show ks_28 ≤ ms by omega) ?_
    exact W.iret hx hb hr (fun t9 ht hW => ⟨⟨_, o, rfl, e3.symm, by rw [ht]; exact hP, hD⟩, hS.F ht⟩) hS.2.2 d_Deeds_valueWord_132
  replace hm := if_f c_20 hm
  rcases Classical.em (v1 = 34) with c_29 | c_29
  · replace hm := if_t c_29 hm
    refine lv_tableIn (x := v1) (tgt := 133) hx hb d_Deeds_valueWord_19 (by rw [c_29]; decide) (by rw [c_29]; decide) (by rw [c_29]; rfl) (by decide) ?_
    refine lv_aload_n hx hb d_Deeds_valueWord_133 rfl (lv_at hl 2 rfl) ?_
    refine va_get (D := (dC, dI)) (ci := 10) (v := .ref ((u 1))) (C := R_Deeds) (T := F_Deeds) (N := 8) hx hb htt iw_Deeds hown hK hP 10 xo_10 rfl 0 (Nat.le_of_ble_eq_true rfl) (htt _ lk_Deeds_15) (fun _ h9 => h9) xg_10_0 d_Deeds_valueWord_134 ?_
    refine lv_iload_n hx hb d_Deeds_valueWord_137 rfl (lv_at hl 1 rfl) ?_
    obtain ⟨r_31, h_30, hm⟩ := ob0_some hm
    have hFc := x_free0 hS hA
    refine xg_calli (va_runS (As := [.int r_2]) (rest := [.ref ((u 1))]) ⟨hx, hb, hml, hown, hts⟩ (x_Heap_isWord l H.size n h_30) (va_cwS 1 hts (tw_GS tw_cons cw_Heap_isWord lk_Deeds_78 st_Heap_isWord ini_Heap) rfl rfl rfl hd_Heap_isWord ⟨Nat.le_of_ble_eq_true rfl, Nat.le_of_ble_eq_true rfl⟩) xpS0 rfl rfl hl.1 rfl (lv_room (Nat.le_of_ble_eq_true rfl)) d_Deeds_valueWord_138 ⟨show kc_7 + 0 ≤ mc by omega, show ks_8 + 0 ≤ ms by omega⟩) hS (fun q _ h => hFc q h) hFc (fun kc_32 ks_33 r9 u9 t9 H locs ekc eks ht hvm e9 hB hz1 hk1 hS => ?_)
    replace hkc : kc_32 + k2.1 = mc := by omega
    replace hks : ks_33 + k2.2 = ms := by omega
    clear ekc eks
    have e9 : r_31 = r9 := e9
    subst e9
    replace hP := x_keep hP hk1
    clear hFc hk1 hz1 hvm hB ht
    obtain ⟨r_35, h_34, hm⟩ := ob0_some hm
    have hFc := x_free0 hS hA
    refine xg_calli (va_runV (As := [.int r_31]) (rest := []) ⟨hx, hb, hml, hown, hts⟩ (x_Heap_truth l dC dI cI adK adV adA u o g H.size n h_34) (cwV 1 hts (tw_GV tw_cons cw_Heap_truth lk_Deeds_150 in_Heap_truth sel_Heap_truth ini_Heap) rfl rfl rfl ⟨rfl, hd_Heap_truth⟩ ⟨Nat.le_of_ble_eq_true rfl, Nat.le_of_ble_eq_true rfl⟩) (xpVr hK hP hS hE hFc xo_1 rfl) rfl rfl hl.1 rfl (lv_room (Nat.le_of_ble_eq_true rfl)) d_Deeds_valueWord_141 ⟨show kc_32 + 0 ≤ mc by omega, show ks_33 + 0 ≤ ms by omega⟩) hS (fun q _ h => hFc q h) hFc (fun kc_36 ks_37 r9 u9 t9 H locs ekc eks ht hvm e9 hB hz1 hk1 hS => ?_)
    replace hkc : kc_36 + k2.1 = mc := by omega
    replace hks : ks_37 + k2.2 = ms := by omega
    clear ekc eks
    have e9 : r_35 = r9 := e9
    subst e9
    replace hP := x_keep hP hk1
    clear hFc hk1 hz1 hvm hB ht
    obtain ⟨e1, e2, e4, e5, e6, e3⟩ := re5 hm
    obtain ⟨hP, hD⟩ := x_eqg e1 e2 e4 hP hD
    refine W.widen (k := mc) (n := ms) (show kc_36 ≤ mc by omega) (show ks_37 ≤ ms by omega) ?_
    exact W.iret hx hb hr (fun t9 ht hW => ⟨⟨_, o, rfl, e3.symm, by rw [ht]; exact hP, hD⟩, hS.F ht⟩) hS.2.2 d_Deeds_valueWord_144
  replace hm := if_f c_29 hm
  rcases Classical.em (v1 = 35) with c_38 | c_38
  · replace hm := if_t c_38 hm
    refine lv_tableIn (x := v1) (tgt := 145) hx hb d_Deeds_valueWord_19 (by rw [c_38]; decide) (by rw [c_38]; decide) (by rw [c_38]; rfl) (by decide) ?_
    refine lv_aload_n hx hb d_Deeds_valueWord_145 rfl (lv_at hl 2 rfl) ?_
    refine va_get (D := (dC, dI)) (ci := 10) (v := .ref ((u 1))) (C := R_Deeds) (T := F_Deeds) (N := 8) hx hb htt iw_Deeds hown hK hP 10 xo_10 rfl 0 (Nat.le_of_ble_eq_true rfl) (htt _ lk_Deeds_15) (fun _ h9 => h9) xg_10_0 d_Deeds_valueWord_146 ?_
    refine lv_iload_n hx hb d_Deeds_valueWord_149 rfl (lv_at hl 1 rfl) ?_
    obtain ⟨r_40, h_39, hm⟩ := ob0_some hm
    have hFc := x_free0 hS hA
    refine xg_calli (va_runS (As := [.int r_2]) (rest := [.ref ((u 1))]) ⟨hx, hb, hml, hown, hts⟩ (x_Heap_isNumber l H.size n h_39) (va_cwS 1 hts (tw_GS tw_cons cw_Heap_isNumber lk_Deeds_71 st_Heap_isNumber ini_Heap) rfl rfl rfl hd_Heap_isNumber ⟨Nat.le_of_ble_eq_true rfl, Nat.le_of_ble_eq_true rfl⟩) xpS0 rfl rfl hl.1 rfl (lv_room (Nat.le_of_ble_eq_true rfl)) d_Deeds_valueWord_150 ⟨show kc_7 + 0 ≤ mc by omega, show ks_8 + 0 ≤ ms by omega⟩) hS (fun q _ h => hFc q h) hFc (fun kc_41 ks_42 r9 u9 t9 H locs ekc eks ht hvm e9 hB hz1 hk1 hS => ?_)
    replace hkc : kc_41 + k2.1 = mc := by omega
    replace hks : ks_42 + k2.2 = ms := by omega
    clear ekc eks
    have e9 : r_40 = r9 := e9
    subst e9
    replace hP := x_keep hP hk1
    clear hFc hk1 hz1 hvm hB ht
    obtain ⟨r_44, h_43, hm⟩ := ob0_some hm
    have hFc := x_free0 hS hA
    refine xg_calli (va_runV (As := [.int r_40]) (rest := []) ⟨hx, hb, hml, hown, hts⟩ (x_Heap_truth l dC dI cI adK adV adA u o g H.size n h_43) (cwV 1 hts (tw_GV tw_cons cw_Heap_truth lk_Deeds_150 in_Heap_truth sel_Heap_truth ini_Heap) rfl rfl rfl ⟨rfl, hd_Heap_truth⟩ ⟨Nat.le_of_ble_eq_true rfl, Nat.le_of_ble_eq_true rfl⟩) (xpVr hK hP hS hE hFc xo_1 rfl) rfl rfl hl.1 rfl (lv_room (Nat.le_of_ble_eq_true rfl)) d_Deeds_valueWord_153 ⟨show kc_41 + 0 ≤ mc by omega, show ks_42 + 0 ≤ ms by omega⟩) hS (fun q _ h => hFc q h) hFc (fun kc_45 ks_46 r9 u9 t9 H locs ekc eks ht hvm e9 hB hz1 hk1 hS => ?_)
    replace hkc : kc_45 + k2.1 = mc := by omega
    replace hks : ks_46 + k2.2 = ms := by omega
    clear ekc eks
    have e9 : r_44 = r9 := e9
    subst e9
    replace hP := x_keep hP hk1
    clear hFc hk1 hz1 hvm hB ht
    obtain ⟨e1, e2, e4, e5, e6, e3⟩ := re5 hm
    obtain ⟨hP, hD⟩ := x_eqg e1 e2 e4 hP hD
    refine W.widen (k := mc) (n := ms) (show kc_45 ≤ mc by omega) (show ks_46 ≤ ms by omega) ?_
    exact W.iret hx hb hr (fun t9 ht hW => ⟨⟨_, o, rfl, e3.symm, by rw [ht]; exact hP, hD⟩, hS.F ht⟩) hS.2.2 d_Deeds_valueWord_156
  replace hm := if_f c_38 hm
  rcases Classical.em (v1 = 36) with c_47 | c_47
  · replace hm := if_t c_47 hm
    refine lv_tableIn (x := v1) (tgt := 157) hx hb d_Deeds_valueWord_19 (by rw [c_47]; decide) (by rw [c_47]; decide) (by rw [c_47]; rfl) (by decide) ?_
    refine lv_iload_n hx hb d_Deeds_valueWord_157 rfl (lv_at hl 1 rfl) ?_
    obtain ⟨r_49, h_48, hm⟩ := ob0_some hm
    have hFc := x_free0 hS hA
    refine xg_calli (va_runS (As := [.int r_2]) (rest := []) ⟨hx, hb, hml, hown, hts⟩ (x_Heap_isList l H.size n h_48) (va_cwS 1 hts (tw_GS tw_cons cw_Heap_isList lk_Deeds_75 st_Heap_isList ini_Heap) rfl rfl rfl hd_Heap_isList ⟨Nat.le_of_ble_eq_true rfl, Nat.le_of_ble_eq_true rfl⟩) xpS0 rfl rfl hl.1 rfl (lv_room (Nat.le_of_ble_eq_true rfl)) d_Deeds_valueWord_158 ⟨show kc_7 + 0 ≤ mc by omega, show ks_8 + 0 ≤ ms by omega⟩) hS (fun q _ h => hFc q h) hFc (fun kc_50 ks_51 r9 u9 t9 H locs ekc eks ht hvm e9 hB hz1 hk1 hS => ?_)
    replace hkc : kc_50 + k2.1 = mc := by omega
    replace hks : ks_51 + k2.2 = ms := by omega
    clear ekc eks
    have e9 : r_49 = r9 := e9
    subst e9
    replace hP := x_keep hP hk1
    clear hFc hk1 hz1 hvm hB ht
    refine lv_if_eq (tgt := 175) hx hb d_Deeds_valueWord_161 (by decide) (fun c_52 => ?_) (fun c_52 => ?_)
    · replace hm := if_t c_52 hm
      refine lv_iconst (v := 1) hx hb d_Deeds_valueWord_175 (by decide) ?_
      obtain ⟨r_54, h_53, hm⟩ := ob0_some hm
      have hFc := x_free0 hS hA
      refine xg_calli (va_runS (As := [.int 1]) (rest := []) ⟨hx, hb, hml, hown, hts⟩ (x_Heap_number l H.size n h_53) (va_cwS 1 hts (tw_GS tw_cons cw_Heap_number lk_Deeds_127 st_Heap_number ini_Heap) rfl rfl rfl hd_Heap_number ⟨Nat.le_of_ble_eq_true rfl, Nat.le_of_ble_eq_true rfl⟩) xpS0 rfl rfl hl.1 rfl (lv_room (Nat.le_of_ble_eq_true rfl)) d_Deeds_valueWord_176 ⟨show kc_50 + 0 ≤ mc by omega, show ks_51 + 0 ≤ ms by omega⟩) hS (fun q _ h => hFc q h) hFc (fun kc_55 ks_56 r9 u9 t9 H locs ekc eks ht hvm e9 hB hz1 hk1 hS => ?_)
      replace hkc : kc_55 + k2.1 = mc := by omega
      replace hks : ks_56 + k2.2 = ms := by omega
      clear ekc eks
      have e9 : r_54 = r9 := e9
      subst e9
      replace hP := x_keep hP hk1
      clear hFc hk1 hz1 hvm hB ht
      obtain ⟨e1, e2, e4, e5, e6, e3⟩ := re5 hm
      obtain ⟨hP, hD⟩ := x_eqg e1 e2 e4 hP hD
      refine W.widen (k := mc) (n := ms) (show kc_55 ≤ mc by omega) (show ks_56 ≤ ms by omega) ?_
      exact W.iret hx hb hr (fun t9 ht hW => ⟨⟨_, o, rfl, e3.symm, by rw [ht]; exact hP, hD⟩, hS.F ht⟩) hS.2.2 d_Deeds_valueWord_179
    · replace hm := if_f c_52 hm
      refine lv_aload_n hx hb d_Deeds_valueWord_164 rfl (lv_at hl 2 rfl) ?_
      refine va_get (D := (dC, dI)) (ci := 10) (v := .ref ((u 1))) (C := R_Deeds) (T := F_Deeds) (N := 8) hx hb htt iw_Deeds hown hK hP 10 xo_10 rfl 0 (Nat.le_of_ble_eq_true rfl) (htt _ lk_Deeds_15) (fun _ h9 => h9) xg_10_0 d_Deeds_valueWord_165 ?_
      refine lv_iload_n hx hb d_Deeds_valueWord_168 rfl (lv_at hl 1 rfl) ?_
      obtain ⟨r_58, h_57, hm⟩ := ob0_some hm
      have hFc := x_free0 hS hA
      refine xg_calli (va_runV (As := [.int r_2]) (rest := []) ⟨hx, hb, hml, hown, hts⟩ (x_Heap_count l dC dI cI adK adV adA u o g H.size n h_57) (cwV 1 hts (tw_GV tw_cons cw_Heap_count lk_Deeds_173 in_Heap_count sel_Heap_count ini_Heap) rfl rfl rfl ⟨rfl, hd_Heap_count⟩ ⟨Nat.le_of_ble_eq_true rfl, Nat.le_of_ble_eq_true rfl⟩) (xpVr hK hP hS hE hFc xo_1 rfl) rfl rfl hl.1 rfl (lv_room (Nat.le_of_ble_eq_true rfl)) d_Deeds_valueWord_169 ⟨show kc_50 + 0 ≤ mc by omega, show ks_51 + 0 ≤ ms by omega⟩) hS (fun q _ h => hFc q h) hFc (fun kc_59 ks_60 r9 u9 t9 H locs ekc eks ht hvm e9 hB hz1 hk1 hS => ?_)
      replace hkc : kc_59 + k2.1 = mc := by omega
      replace hks : ks_60 + k2.2 = ms := by omega
      clear ekc eks
      have e9 : r_58 = r9 := e9
      subst e9
      replace hP := x_keep hP hk1
      clear hFc hk1 hz1 hvm hB ht
      refine lv_goto (tgt := 176) hx hb d_Deeds_valueWord_172 (by decide) ?_
      obtain ⟨r_62, h_61, hm⟩ := ob0_some hm
      have hFc := x_free0 hS hA
      refine xg_calli (va_runS (As := [.int r_58]) (rest := []) ⟨hx, hb, hml, hown, hts⟩ (x_Heap_number l H.size n h_61) (va_cwS 1 hts (tw_GS tw_cons cw_Heap_number lk_Deeds_127 st_Heap_number ini_Heap) rfl rfl rfl hd_Heap_number ⟨Nat.le_of_ble_eq_true rfl, Nat.le_of_ble_eq_true rfl⟩) xpS0 rfl rfl hl.1 rfl (lv_room (Nat.le_of_ble_eq_true rfl)) d_Deeds_valueWord_176 ⟨show kc_59 + 0 ≤ mc by omega, show ks_60 + 0 ≤ ms by omega⟩) hS (fun q _ h => hFc q h) hFc (fun kc_63 ks_64 r9 u9 t9 H locs ekc eks ht hvm e9 hB hz1 hk1 hS => ?_)
      replace hkc : kc_63 + k2.1 = mc := by omega
      replace hks : ks_64 + k2.2 = ms := by omega
      clear ekc eks
      have e9 : r_62 = r9 := e9
      subst e9
      replace hP := x_keep hP hk1
      clear hFc hk1 hz1 hvm hB ht
      obtain ⟨e1, e2, e4, e5, e6, e3⟩ := re5 hm
      obtain ⟨hP, hD⟩ := x_eqg e1 e2 e4 hP hD
      refine W.widen (k := mc) (n := ms) (show kc_63 ≤ mc by omega) (show ks_64 ≤ ms by omega) ?_
      exact W.iret hx hb hr (fun t9 ht hW => ⟨⟨_, o, rfl, e3.symm, by rw [ht]; exact hP, hD⟩, hS.F ht⟩) hS.2.2 d_Deeds_valueWord_179
  replace hm := if_f c_47 hm
  rcases Classical.em (v1 = 37) with c_65 | c_65
  · replace hm := if_t c_65 hm
    refine lv_tableIn (x := v1) (tgt := 180) hx hb d_Deeds_valueWord_19 (by rw [c_65]; decide) (by rw [c_65]; decide) (by rw [c_65]; rfl) (by decide) ?_
    refine lv_aload_n hx hb d_Deeds_valueWord_180 rfl (lv_at hl 2 rfl) ?_
    refine va_get (D := (dC, dI)) (ci := 10) (v := .ref ((u 1))) (C := R_Deeds) (T := F_Deeds) (N := 8) hx hb htt iw_Deeds hown hK hP 10 xo_10 rfl 0 (Nat.le_of_ble_eq_true rfl) (htt _ lk_Deeds_15) (fun _ h9 => h9) xg_10_0 d_Deeds_valueWord_181 ?_
    refine lv_aload_n hx hb d_Deeds_valueWord_184 rfl (lv_at hl 2 rfl) ?_
    refine va_get (D := (dC, dI)) (ci := 10) (v := .ref ((u 1))) (C := R_Deeds) (T := F_Deeds) (N := 8) hx hb htt iw_Deeds hown hK hP 10 xo_10 rfl 0 (Nat.le_of_ble_eq_true rfl) (htt _ lk_Deeds_15) (fun _ h9 => h9) xg_10_0 d_Deeds_valueWord_185 ?_
    refine lv_iload_n hx hb d_Deeds_valueWord_188 rfl (lv_at hl 1 rfl) ?_
    obtain ⟨r_67, h_66, hm⟩ := ob0_some hm
    have hFc := x_free0 hS hA
    refine xg_calli (va_runV (As := [.int r_2]) (rest := [.ref ((u 1))]) ⟨hx, hb, hml, hown, hts⟩ (x_Heap_count l dC dI cI adK adV adA u o g H.size n h_66) (cwV 1 hts (tw_GV tw_cons cw_Heap_count lk_Deeds_173 in_Heap_count sel_Heap_count ini_Heap) rfl rfl rfl ⟨rfl, hd_Heap_count⟩ ⟨Nat.le_of_ble_eq_true rfl, Nat.le_of_ble_eq_true rfl⟩) (xpVr hK hP hS hE hFc xo_1 rfl) rfl rfl hl.1 rfl (lv_room (Nat.le_of_ble_eq_true rfl)) d_Deeds_valueWord_189 ⟨show kc_7 + 0 ≤ mc by omega, show ks_8 + 0 ≤ ms by omega⟩) hS (fun q _ h => hFc q h) hFc (fun kc_68 ks_69 r9 u9 t9 H locs ekc eks ht hvm e9 hB hz1 hk1 hS => ?_)
    replace hkc : kc_68 + k2.1 = mc := by omega
    replace hks : ks_69 + k2.2 = ms := by omega
    clear ekc eks
    have e9 : r_67 = r9 := e9
    subst e9
    replace hP := x_keep hP hk1
    clear hFc hk1 hz1 hvm hB ht
    refine lv_if_ne (tgt := 199) hx hb d_Deeds_valueWord_192 (by decide) (fun c_70 => ?_) (fun c_70 => ?_)
    · replace hm := if_f c_70 hm
      refine lv_iconst (v := 0) hx hb d_Deeds_valueWord_199 (by decide) ?_
      obtain ⟨r_72, h_71, hm⟩ := ob0_some hm
      have hFc := x_free0 hS hA
      refine xg_calli (va_runV (As := [.int 0]) (rest := []) ⟨hx, hb, hml, hown, hts⟩ (x_Heap_truth l dC dI cI adK adV adA u o g H.size n h_71) (cwV 1 hts (tw_GV tw_cons cw_Heap_truth lk_Deeds_150 in_Heap_truth sel_Heap_truth ini_Heap) rfl rfl rfl ⟨rfl, hd_Heap_truth⟩ ⟨Nat.le_of_ble_eq_true rfl, Nat.le_of_ble_eq_true rfl⟩) (xpVr hK hP hS hE hFc xo_1 rfl) rfl rfl hl.1 rfl (lv_room (Nat.le_of_ble_eq_true rfl)) d_Deeds_valueWord_200 ⟨show kc_68 + 0 ≤ mc by omega, show ks_69 + 0 ≤ ms by omega⟩) hS (fun q _ h => hFc q h) hFc (fun kc_73 ks_74 r9 u9 t9 H locs ekc eks ht hvm e9 hB hz1 hk1 hS => ?_)
      replace hkc : kc_73 + k2.1 = mc := by omega
      replace hks : ks_74 + k2.2 = ms := by omega
      clear ekc eks
      have e9 : r_72 = r9 := e9
      subst e9
      replace hP := x_keep hP hk1
      clear hFc hk1 hz1 hvm hB ht
      obtain ⟨e1, e2, e4, e5, e6, e3⟩ := re5 hm
      obtain ⟨hP, hD⟩ := x_eqg e1 e2 e4 hP hD
      refine W.widen (k := mc) (n := ms) (show kc_73 ≤ mc by omega) (show ks_74 ≤ ms by omega) ?_
      exact W.iret hx hb hr (fun t9 ht hW => ⟨⟨_, o, rfl, e3.symm, by rw [ht]; exact hP, hD⟩, hS.F ht⟩) hS.2.2 d_Deeds_valueWord_203
    · replace hm := if_t c_70 hm
      refine lv_iconst (v := 1) hx hb d_Deeds_valueWord_195 (by decide) ?_
      refine lv_goto (tgt := 200) hx hb d_Deeds_valueWord_196 (by decide) ?_
      obtain ⟨r_76, h_75, hm⟩ := ob0_some hm
      have hFc := x_free0 hS hA
      refine xg_calli (va_runV (As := [.int 1]) (rest := []) ⟨hx, hb, hml, hown, hts⟩ (x_Heap_truth l dC dI cI adK adV adA u o g H.size n h_75) (cwV 1 hts (tw_GV tw_cons cw_Heap_truth lk_Deeds_150 in_Heap_truth sel_Heap_truth ini_Heap) rfl rfl rfl ⟨rfl, hd_Heap_truth⟩ ⟨Nat.le_of_ble_eq_true rfl, Nat.le_of_ble_eq_true rfl⟩) (xpVr hK hP hS hE hFc xo_1 rfl) rfl rfl hl.1 rfl (lv_room (Nat.le_of_ble_eq_true rfl)) d_Deeds_valueWord_200 ⟨show kc_68 + 0 ≤ mc by omega, show ks_69 + 0 ≤ ms by omega⟩) hS (fun q _ h => hFc q h) hFc (fun kc_77 ks_78 r9 u9 t9 H locs ekc eks ht hvm e9 hB hz1 hk1 hS => ?_)
      replace hkc : kc_77 + k2.1 = mc := by omega
      replace hks : ks_78 + k2.2 = ms := by omega
      clear ekc eks
      have e9 : r_76 = r9 := e9
      subst e9
      replace hP := x_keep hP hk1
      clear hFc hk1 hz1 hvm hB ht
      obtain ⟨e1, e2, e4, e5, e6, e3⟩ := re5 hm
      obtain ⟨hP, hD⟩ := x_eqg e1 e2 e4 hP hD
      refine W.widen (k := mc) (n := ms) (show kc_77 ≤ mc by omega) (show ks_78 ≤ ms by omega) ?_
      exact W.iret hx hb hr (fun t9 ht hW => ⟨⟨_, o, rfl, e3.symm, by rw [ht]; exact hP, hD⟩, hS.F ht⟩) hS.2.2 d_Deeds_valueWord_203
  replace hm := if_f c_65 hm
  rcases Classical.em (v1 = 38) with c_79 | c_79
  · replace hm := if_t c_79 hm
    refine lv_tableIn (x := v1) (tgt := 204) hx hb d_Deeds_valueWord_19 (by rw [c_79]; decide) (by rw [c_79]; decide) (by rw [c_79]; rfl) (by decide) ?_
    refine lv_aload_n hx hb d_Deeds_valueWord_204 rfl (lv_at hl 2 rfl) ?_
    refine lv_iconst (v := 1) hx hb d_Deeds_valueWord_205 (by decide) ?_
    refine lv_iload_n hx hb d_Deeds_valueWord_206 rfl (lv_at hl 1 rfl) ?_
    obtain ⟨r_81, h_80, hm⟩ := ob0_some hm
    have hFc := x_free0 hS hA
    refine xg_calli (va_runV (As := [.int 1, .int r_2]) (rest := []) ⟨hx, hb, hml, hown, hts⟩ (x_Deeds_item l dC dI cI adK adV adA u o g H.size n h_80) (cwV 2 hts (tw_GV tw_cons cw_Deeds_item lk_Deeds_176 in_Deeds_item sel_Deeds_item ini_Deeds) rfl rfl rfl ⟨rfl, hd_Deeds_item⟩ ⟨Nat.le_of_ble_eq_true rfl, Nat.le_of_ble_eq_true rfl⟩) (xpVr hK hP hS hE hFc xo_10 rfl) rfl rfl hl.1 rfl (lv_room (Nat.le_of_ble_eq_true rfl)) d_Deeds_valueWord_207 ⟨show kc_7 + 0 ≤ mc by omega, show ks_8 + 0 ≤ ms by omega⟩) hS (fun q _ h => hFc q h) hFc (fun kc_82 ks_83 r9 u9 t9 H locs ekc eks ht hvm e9 hB hz1 hk1 hS => ?_)
    replace hkc : kc_82 + k2.1 = mc := by omega
    replace hks : ks_83 + k2.2 = ms := by omega
    clear ekc eks
    have e9 : r_81 = r9 := e9
    subst e9
    replace hP := x_keep hP hk1
    clear hFc hk1 hz1 hvm hB ht
    obtain ⟨e1, e2, e4, e5, e6, e3⟩ := re5 hm
    obtain ⟨hP, hD⟩ := x_eqg e1 e2 e4 hP hD
    refine W.widen (k := mc) (n := ms) (show kc_82 ≤ mc by omega) (show ks_83 ≤ ms by omega) ?_
    exact W.iret hx hb hr (fun t9 ht hW => ⟨⟨_, o, rfl, e3.symm, by rw [ht]; exact hP, hD⟩, hS.F ht⟩) hS.2.2 d_Deeds_valueWord_210
  replace hm := if_f c_79 hm
  rcases Classical.em (v1 = 39) with c_84 | c_84
  · replace hm := if_t c_84 hm
    refine lv_tableIn (x := v1) (tgt := 211) hx hb d_Deeds_valueWord_19 (by rw [c_84]; decide) (by rw [c_84]; decide) (by rw [c_84]; rfl) (by decide) ?_
    refine lv_aload_n hx hb d_Deeds_valueWord_211 rfl (lv_at hl 2 rfl) ?_
    refine lv_aload_n hx hb d_Deeds_valueWord_212 rfl (lv_at hl 2 rfl) ?_
    refine va_get (D := (dC, dI)) (ci := 10) (v := .ref ((u 1))) (C := R_Deeds) (T := F_Deeds) (N := 8) hx hb htt iw_Deeds hown hK hP 10 xo_10 rfl 0 (Nat.le_of_ble_eq_true rfl) (htt _ lk_Deeds_15) (fun _ h9 => h9) xg_10_0 d_Deeds_valueWord_213 ?_
    refine lv_iload_n hx hb d_Deeds_valueWord_216 rfl (lv_at hl 1 rfl) ?_
    obtain ⟨r_86, h_85, hm⟩ := ob0_some hm
    have hFc := x_free0 hS hA
    refine xg_calli (va_runV (As := [.int r_2]) (rest := [.ref ((u 10))]) ⟨hx, hb, hml, hown, hts⟩ (x_Heap_count l dC dI cI adK adV adA u o g H.size n h_85) (cwV 1 hts (tw_GV tw_cons cw_Heap_count lk_Deeds_173 in_Heap_count sel_Heap_count ini_Heap) rfl rfl rfl ⟨rfl, hd_Heap_count⟩ ⟨Nat.le_of_ble_eq_true rfl, Nat.le_of_ble_eq_true rfl⟩) (xpVr hK hP hS hE hFc xo_1 rfl) rfl rfl hl.1 rfl (lv_room (Nat.le_of_ble_eq_true rfl)) d_Deeds_valueWord_217 ⟨show kc_7 + 0 ≤ mc by omega, show ks_8 + 0 ≤ ms by omega⟩) hS (fun q _ h => hFc q h) hFc (fun kc_87 ks_88 r9 u9 t9 H locs ekc eks ht hvm e9 hB hz1 hk1 hS => ?_)
    replace hkc : kc_87 + k2.1 = mc := by omega
    replace hks : ks_88 + k2.2 = ms := by omega
    clear ekc eks
    have e9 : r_86 = r9 := e9
    subst e9
    replace hP := x_keep hP hk1
    clear hFc hk1 hz1 hvm hB ht
    refine lv_iload_n hx hb d_Deeds_valueWord_220 rfl (lv_at hl 1 rfl) ?_
    obtain ⟨r_90, h_89, hm⟩ := ob0_some hm
    have hFc := x_free0 hS hA
    refine xg_calli (va_runV (As := [.int r_86, .int r_2]) (rest := []) ⟨hx, hb, hml, hown, hts⟩ (x_Deeds_item l dC dI cI adK adV adA u o g H.size n h_89) (cwV 2 hts (tw_GV tw_cons cw_Deeds_item lk_Deeds_176 in_Deeds_item sel_Deeds_item ini_Deeds) rfl rfl rfl ⟨rfl, hd_Deeds_item⟩ ⟨Nat.le_of_ble_eq_true rfl, Nat.le_of_ble_eq_true rfl⟩) (xpVr hK hP hS hE hFc xo_10 rfl) rfl rfl hl.1 rfl (lv_room (Nat.le_of_ble_eq_true rfl)) d_Deeds_valueWord_221 ⟨show kc_87 + 0 ≤ mc by omega, show ks_88 + 0 ≤ ms by omega⟩) hS (fun q _ h => hFc q h) hFc (fun kc_91 ks_92 r9 u9 t9 H locs ekc eks ht hvm e9 hB hz1 hk1 hS => ?_)
    replace hkc : kc_91 + k2.1 = mc := by omega
    replace hks : ks_92 + k2.2 = ms := by omega
    clear ekc eks
    have e9 : r_90 = r9 := e9
    subst e9
    replace hP := x_keep hP hk1
    clear hFc hk1 hz1 hvm hB ht
    obtain ⟨e1, e2, e4, e5, e6, e3⟩ := re5 hm
    obtain ⟨hP, hD⟩ := x_eqg e1 e2 e4 hP hD
    refine W.widen (k := mc) (n := ms) (show kc_91 ≤ mc by omega) (show ks_92 ≤ ms by omega) ?_
    exact W.iret hx hb hr (fun t9 ht hW => ⟨⟨_, o, rfl, e3.symm, by rw [ht]; exact hP, hD⟩, hS.F ht⟩) hS.2.2 d_Deeds_valueWord_224
  replace hm := if_f c_84 hm
  rcases Classical.em (v1 = 40) with c_93 | c_93
  · replace hm := if_t c_93 hm
    refine lv_tableIn (x := v1) (tgt := 225) hx hb d_Deeds_valueWord_19 (by rw [c_93]; decide) (by rw [c_93]; decide) (by rw [c_93]; rfl) (by decide) ?_
    refine lv_aload_n hx hb d_Deeds_valueWord_225 rfl (lv_at hl 2 rfl) ?_
    refine lv_iload_n hx hb d_Deeds_valueWord_226 rfl (lv_at hl 1 rfl) ?_
    refine lv_iconst (v := 0) hx hb d_Deeds_valueWord_227 (by decide) ?_
    refine lv_iconst (v := 1) hx hb d_Deeds_valueWord_228 (by decide) ?_
    obtain ⟨i_95, a_96, g_97, k_98, r_99, k_100, h_94, hm, e7, e8⟩ := obG_some hm
    have hFc := x_free hD hS hA
    refine xg_calli (va_runV (As := [.int r_2, .int 0, .int 1]) (rest := []) ⟨hx, hb, hml, hown, hts⟩ (x_Deeds_without l dC dI cI adK adV adA u o g H.size n h_94) (cwV 3 hts (tw_GV tw_cons cw_Deeds_without lk_Deeds_179 in_Deeds_without sel_Deeds_without ini_Deeds) rfl rfl rfl ⟨rfl, hd_Deeds_without⟩ ⟨Nat.le_of_ble_eq_true rfl, Nat.le_of_ble_eq_true rfl⟩) (xpV hK hP hD hS hE hFc xo_10 rfl) rfl rfl hl.1 rfl (lv_room (Nat.le_of_ble_eq_true rfl)) d_Deeds_valueWord_229 ⟨show kc_7 + k_98.1 ≤ mc by omega, show ks_8 + k_98.2 ≤ ms by omega⟩) hS (fun q _ h => hFc q h) hFc (fun kc_102 ks_103 r9 o_101 t9 H locs ekc eks ht hvm e9 hB hz1 hk1 hS => ?_)
    replace hkc : kc_102 + k_100.1 = mc := by omega
    replace hks : ks_103 + k_100.2 = ms := by omega
    clear e7 e8
    clear ekc eks
    have e9 : r_99 = r9 := e9
    subst e9
    obtain ⟨hP, hD⟩ := x_aftg hB ht hFc
    clear hFc hk1 hz1 hvm hB ht
    obtain ⟨e1, e2, e4, e5, e6, e3⟩ := re5 hm
    obtain ⟨hP, hD⟩ := x_eqg e1 e2 e4 hP hD
    refine W.widen (k := mc) (n := ms) (show kc_102 ≤ mc by omega) (show ks_103 ≤ ms by omega) ?_
    exact W.iret hx hb hr (fun t9 ht hW => ⟨⟨_, o_101, rfl, e3.symm, by rw [ht]; exact hP, hD⟩, hS.F ht⟩) hS.2.2 d_Deeds_valueWord_232
  replace hm := if_f c_93 hm
  rcases Classical.em (v1 = 41) with c_104 | c_104
  · replace hm := if_t c_104 hm
    refine lv_tableIn (x := v1) (tgt := 233) hx hb d_Deeds_valueWord_19 (by rw [c_104]; decide) (by rw [c_104]; decide) (by rw [c_104]; rfl) (by decide) ?_
    refine lv_aload_n hx hb d_Deeds_valueWord_233 rfl (lv_at hl 2 rfl) ?_
    refine lv_iload_n hx hb d_Deeds_valueWord_234 rfl (lv_at hl 1 rfl) ?_
    refine lv_aload_n hx hb d_Deeds_valueWord_235 rfl (lv_at hl 2 rfl) ?_
    refine va_get (D := (dC, dI)) (ci := 10) (v := .ref ((u 1))) (C := R_Deeds) (T := F_Deeds) (N := 8) hx hb htt iw_Deeds hown hK hP 10 xo_10 rfl 0 (Nat.le_of_ble_eq_true rfl) (htt _ lk_Deeds_15) (fun _ h9 => h9) xg_10_0 d_Deeds_valueWord_236 ?_
    refine lv_iload_n hx hb d_Deeds_valueWord_239 rfl (lv_at hl 1 rfl) ?_
    obtain ⟨r_106, h_105, hm⟩ := ob0_some hm
    have hFc := x_free0 hS hA
    refine xg_calli (va_runV (As := [.int r_2]) (rest := [.int r_2, .ref ((u 10))]) ⟨hx, hb, hml, hown, hts⟩ (x_Heap_count l dC dI cI adK adV adA u o g H.size n h_105) (cwV 1 hts (tw_GV tw_cons cw_Heap_count lk_Deeds_173 in_Heap_count sel_Heap_count ini_Heap) rfl rfl rfl ⟨rfl, hd_Heap_count⟩ ⟨Nat.le_of_ble_eq_true rfl, Nat.le_of_ble_eq_true rfl⟩) (xpVr hK hP hS hE hFc xo_1 rfl) rfl rfl hl.1 rfl (lv_room (Nat.le_of_ble_eq_true rfl)) d_Deeds_valueWord_240 ⟨show kc_7 + 0 ≤ mc by omega, show ks_8 + 0 ≤ ms by omega⟩) hS (fun q _ h => hFc q h) hFc (fun kc_107 ks_108 r9 u9 t9 H locs ekc eks ht hvm e9 hB hz1 hk1 hS => ?_)
    replace hkc : kc_107 + k2.1 = mc := by omega
    replace hks : ks_108 + k2.2 = ms := by omega
    clear ekc eks
    have e9 : r_106 = r9 := e9
    subst e9
    replace hP := x_keep hP hk1
    clear hFc hk1 hz1 hvm hB ht
    refine lv_iconst (v := 1) hx hb d_Deeds_valueWord_243 (by decide) ?_
    refine lv_isub hx hb d_Deeds_valueWord_244 ?_
    refine lv_iconst (v := 0) hx hb d_Deeds_valueWord_245 (by decide) ?_
    obtain ⟨i_110, a_111, g_112, k_113, r_114, k_115, h_109, hm, e7, e8⟩ := obG_some hm
    have hFc := x_free hD hS hA
    refine xg_calli (va_runV (As := [.int r_2, .int (r_106 - 1), .int 0]) (rest := []) ⟨hx, hb, hml, hown, hts⟩ (x_Deeds_without l dC dI cI adK adV adA u o g H.size n h_109) (cwV 3 hts (tw_GV tw_cons cw_Deeds_without lk_Deeds_179 in_Deeds_without sel_Deeds_without ini_Deeds) rfl rfl rfl ⟨rfl, hd_Deeds_without⟩ ⟨Nat.le_of_ble_eq_true rfl, Nat.le_of_ble_eq_true rfl⟩) (xpV hK hP hD hS hE hFc xo_10 rfl) rfl rfl hl.1 rfl (lv_room (Nat.le_of_ble_eq_true rfl)) d_Deeds_valueWord_246 ⟨show kc_107 + k_113.1 ≤ mc by omega, show ks_108 + k_113.2 ≤ ms by omega⟩) hS (fun q _ h => hFc q h) hFc (fun kc_117 ks_118 r9 o_116 t9 H locs ekc eks ht hvm e9 hB hz1 hk1 hS => ?_)
    replace hkc : kc_117 + k_115.1 = mc := by omega
    replace hks : ks_118 + k_115.2 = ms := by omega
    clear e7 e8
    clear ekc eks
    have e9 : r_114 = r9 := e9
    subst e9
    obtain ⟨hP, hD⟩ := x_aftg hB ht hFc
    clear hFc hk1 hz1 hvm hB ht
    obtain ⟨e1, e2, e4, e5, e6, e3⟩ := re5 hm
    obtain ⟨hP, hD⟩ := x_eqg e1 e2 e4 hP hD
    refine W.widen (k := mc) (n := ms) (show kc_117 ≤ mc by omega) (show ks_118 ≤ ms by omega) ?_
    exact W.iret hx hb hr (fun t9 ht hW => ⟨⟨_, o_116, rfl, e3.symm, by rw [ht]; exact hP, hD⟩, hS.F ht⟩) hS.2.2 d_Deeds_valueWord_249
  replace hm := if_f c_104 hm
  rcases Classical.em (v1 = 42) with c_119 | c_119
  · replace hm := if_t c_119 hm
    refine lv_tableIn (x := v1) (tgt := 250) hx hb d_Deeds_valueWord_19 (by rw [c_119]; decide) (by rw [c_119]; decide) (by rw [c_119]; rfl) (by decide) ?_
    refine lv_aload_n hx hb d_Deeds_valueWord_250 rfl (lv_at hl 2 rfl) ?_
    refine lv_iload_n hx hb d_Deeds_valueWord_251 rfl (lv_at hl 1 rfl) ?_
    refine lv_iconst (v := 1) hx hb d_Deeds_valueWord_252 (by decide) ?_
    refine lv_ishr hx hb d_Deeds_valueWord_253 ?_
    refine lv_iload_n hx hb d_Deeds_valueWord_254 rfl (lv_at hl 0 rfl) ?_
    obtain ⟨r_121, h_120, hm⟩ := ob0_some hm
    have hFc := x_free0 hS hA
    refine xg_calli (va_runV (As := [.int (r_2 >>> ((1 : Int32) &&& 31)), .int r_6]) (rest := []) ⟨hx, hb, hml, hown, hts⟩ (x_Deeds_item l dC dI cI adK adV adA u o g H.size n h_120) (cwV 2 hts (tw_GV tw_cons cw_Deeds_item lk_Deeds_176 in_Deeds_item sel_Deeds_item ini_Deeds) rfl rfl rfl ⟨rfl, hd_Deeds_item⟩ ⟨Nat.le_of_ble_eq_true rfl, Nat.le_of_ble_eq_true rfl⟩) (xpVr hK hP hS hE hFc xo_10 rfl) rfl rfl hl.1 rfl (lv_room (Nat.le_of_ble_eq_true rfl)) d_Deeds_valueWord_255 ⟨show kc_7 + 0 ≤ mc by omega, show ks_8 + 0 ≤ ms by omega⟩) hS (fun q _ h => hFc q h) hFc (fun kc_122 ks_123 r9 u9 t9 H locs ekc eks ht hvm e9 hB hz1 hk1 hS => ?_)
    replace hkc : kc_122 + k2.1 = mc := by omega
    replace hks : ks_123 + k2.2 = ms := by omega
    clear ekc eks
    have e9 : r_121 = r9 := e9
    subst e9
    replace hP := x_keep hP hk1
    clear hFc hk1 hz1 hvm hB ht
    obtain ⟨e1, e2, e4, e5, e6, e3⟩ := re5 hm
    obtain ⟨hP, hD⟩ := x_eqg e1 e2 e4 hP hD
    refine W.widen (k := mc) (n := ms) (show kc_122 ≤ mc by omega) (show ks_123 ≤ ms by omega) ?_
    exact W.iret hx hb hr (fun t9 ht hW => ⟨⟨_, o, rfl, e3.symm, by rw [ht]; exact hP, hD⟩, hS.F ht⟩) hS.2.2 d_Deeds_valueWord_258
  replace hm := if_f c_119 hm
  rcases Classical.em (v1 = 43) with c_124 | c_124
  · replace hm := if_t c_124 hm
    refine lv_tableIn (x := v1) (tgt := 259) hx hb d_Deeds_valueWord_19 (by rw [c_124]; decide) (by rw [c_124]; decide) (by rw [c_124]; rfl) (by decide) ?_
    refine lv_aload_n hx hb d_Deeds_valueWord_259 rfl (lv_at hl 2 rfl) ?_
    refine lv_iload_n hx hb d_Deeds_valueWord_260 rfl (lv_at hl 1 rfl) ?_
    refine lv_iconst (v := 1) hx hb d_Deeds_valueWord_261 (by decide) ?_
    refine lv_iload_n hx hb d_Deeds_valueWord_262 rfl (lv_at hl 0 rfl) ?_
    refine lv_iconst (v := 0) hx hb d_Deeds_valueWord_263 (by decide) ?_
    obtain ⟨i_126, a_127, g_128, k_129, r_130, k_131, h_125, hm, e7, e8⟩ := obG_some hm
    have hFc := x_free hD hS hA
    refine xg_calli (va_runV (As := [.int r_2, .int 1, .int r_6, .int 0]) (rest := []) ⟨hx, hb, hml, hown, hts⟩ (x_Deeds_join l dC dI cI adK adV adA u o g H.size n h_125) (cwV 4 hts (tw_GV tw_cons cw_Deeds_join lk_Deeds_183 in_Deeds_join sel_Deeds_join ini_Deeds) rfl rfl rfl ⟨rfl, hd_Deeds_join⟩ ⟨Nat.le_of_ble_eq_true rfl, Nat.le_of_ble_eq_true rfl⟩) (xpV hK hP hD hS hE hFc xo_10 rfl) rfl rfl hl.1 rfl (lv_room (Nat.le_of_ble_eq_true rfl)) d_Deeds_valueWord_264 ⟨show kc_7 + k_129.1 ≤ mc by omega, show ks_8 + k_129.2 ≤ ms by omega⟩) hS (fun q _ h => hFc q h) hFc (fun kc_133 ks_134 r9 o_132 t9 H locs ekc eks ht hvm e9 hB hz1 hk1 hS => ?_)
    replace hkc : kc_133 + k_131.1 = mc := by omega
    replace hks : ks_134 + k_131.2 = ms := by omega
    clear e7 e8
    clear ekc eks
    have e9 : r_130 = r9 := e9
    subst e9
    obtain ⟨hP, hD⟩ := x_aftg hB ht hFc
    clear hFc hk1 hz1 hvm hB ht
    obtain ⟨e1, e2, e4, e5, e6, e3⟩ := re5 hm
    obtain ⟨hP, hD⟩ := x_eqg e1 e2 e4 hP hD
    refine W.widen (k := mc) (n := ms) (show kc_133 ≤ mc by omega) (show ks_134 ≤ ms by omega) ?_
    exact W.iret hx hb hr (fun t9 ht hW => ⟨⟨_, o_132, rfl, e3.symm, by rw [ht]; exact hP, hD⟩, hS.F ht⟩) hS.2.2 d_Deeds_valueWord_267
  replace hm := if_f c_124 hm
  rcases Classical.em (v1 = 44) with c_135 | c_135
  · replace hm := if_t c_135 hm
    refine lv_tableIn (x := v1) (tgt := 268) hx hb d_Deeds_valueWord_19 (by rw [c_135]; decide) (by rw [c_135]; decide) (by rw [c_135]; rfl) (by decide) ?_
    refine lv_aload_n hx hb d_Deeds_valueWord_268 rfl (lv_at hl 2 rfl) ?_
    refine lv_iload_n hx hb d_Deeds_valueWord_269 rfl (lv_at hl 0 rfl) ?_
    refine lv_iconst (v := 0) hx hb d_Deeds_valueWord_270 (by decide) ?_
    refine lv_iload_n hx hb d_Deeds_valueWord_271 rfl (lv_at hl 1 rfl) ?_
    refine lv_iconst (v := 1) hx hb d_Deeds_valueWord_272 (by decide) ?_
    obtain ⟨i_137, a_138, g_139, k_140, r_141, k_142, h_136, hm, e7, e8⟩ := obG_some hm
    have hFc := x_free hD hS hA
    refine xg_calli (va_runV (As := [.int r_6, .int 0, .int r_2, .int 1]) (rest := []) ⟨hx, hb, hml, hown, hts⟩ (x_Deeds_join l dC dI cI adK adV adA u o g H.size n h_136) (cwV 4 hts (tw_GV tw_cons cw_Deeds_join lk_Deeds_183 in_Deeds_join sel_Deeds_join ini_Deeds) rfl rfl rfl ⟨rfl, hd_Deeds_join⟩ ⟨Nat.le_of_ble_eq_true rfl, Nat.le_of_ble_eq_true rfl⟩) (xpV hK hP hD hS hE hFc xo_10 rfl) rfl rfl hl.1 rfl (lv_room (Nat.le_of_ble_eq_true rfl)) d_Deeds_valueWord_273 ⟨show kc_7 + k_140.1 ≤ mc by omega, show ks_8 + k_140.2 ≤ ms by omega⟩) hS (fun q _ h => hFc q h) hFc (fun kc_144 ks_145 r9 o_143 t9 H locs ekc eks ht hvm e9 hB hz1 hk1 hS => ?_)
    replace hkc : kc_144 + k_142.1 = mc := by omega
    replace hks : ks_145 + k_142.2 = ms := by omega
    clear e7 e8
    clear ekc eks
    have e9 : r_141 = r9 := e9
    subst e9
    obtain ⟨hP, hD⟩ := x_aftg hB ht hFc
    clear hFc hk1 hz1 hvm hB ht
    obtain ⟨e1, e2, e4, e5, e6, e3⟩ := re5 hm
    obtain ⟨hP, hD⟩ := x_eqg e1 e2 e4 hP hD
    refine W.widen (k := mc) (n := ms) (show kc_144 ≤ mc by omega) (show ks_145 ≤ ms by omega) ?_
    exact W.iret hx hb hr (fun t9 ht hW => ⟨⟨_, o_143, rfl, e3.symm, by rw [ht]; exact hP, hD⟩, hS.F ht⟩) hS.2.2 d_Deeds_valueWord_276
  replace hm := if_f c_135 hm
  rcases Classical.em (v1 = 45) with c_146 | c_146
  · replace hm := if_t c_146 hm
    refine lv_tableIn (x := v1) (tgt := 277) hx hb d_Deeds_valueWord_19 (by rw [c_146]; decide) (by rw [c_146]; decide) (by rw [c_146]; rfl) (by decide) ?_
    refine lv_aload_n hx hb d_Deeds_valueWord_277 rfl (lv_at hl 2 rfl) ?_
    refine lv_iload_n hx hb d_Deeds_valueWord_278 rfl (lv_at hl 1 rfl) ?_
    refine lv_iload_n hx hb d_Deeds_valueWord_279 rfl (lv_at hl 1 rfl) ?_
    obtain ⟨r_148, h_147, hm⟩ := ob0_some hm
    have hFc := x_free0 hS hA
    refine xg_calli (va_runS (As := [.int r_2]) (rest := [.int r_2, .ref ((u 10))]) ⟨hx, hb, hml, hown, hts⟩ (x_Heap_isList l H.size n h_147) (va_cwS 1 hts (tw_GS tw_cons cw_Heap_isList lk_Deeds_75 st_Heap_isList ini_Heap) rfl rfl rfl hd_Heap_isList ⟨Nat.le_of_ble_eq_true rfl, Nat.le_of_ble_eq_true rfl⟩) xpS0 rfl rfl hl.1 rfl (lv_room (Nat.le_of_ble_eq_true rfl)) d_Deeds_valueWord_280 ⟨show kc_7 + 0 ≤ mc by omega, show ks_8 + 0 ≤ ms by omega⟩) hS (fun q _ h => hFc q h) hFc (fun kc_149 ks_150 r9 u9 t9 H locs ekc eks ht hvm e9 hB hz1 hk1 hS => ?_)
    replace hkc : kc_149 + k2.1 = mc := by omega
    replace hks : ks_150 + k2.2 = ms := by omega
    clear ekc eks
    have e9 : r_148 = r9 := e9
    subst e9
    replace hP := x_keep hP hk1
    clear hFc hk1 hz1 hvm hB ht
    refine lv_if_ne (tgt := 290) hx hb d_Deeds_valueWord_283 (by decide) (fun c_151 => ?_) (fun c_151 => ?_)
    · replace hm := if_f c_151 hm
      refine lv_iconst (v := 0) hx hb d_Deeds_valueWord_290 (by decide) ?_
      exact lb_Deeds_valueWord_291 l dC dI cI adK adV adA u n hx hb hml hown hts hK hE hA hr hlocks _ _ _ _ _ _ _ hm o kc_149 ks_150 hkc hks _ _ _ hP hD hS (lv_sub hl [0] rfl)
    · replace hm := if_t c_151 hm
      refine lv_iconst (v := 1) hx hb d_Deeds_valueWord_286 (by decide) ?_
      refine lv_goto (tgt := 291) hx hb d_Deeds_valueWord_287 (by decide) ?_
      exact lb_Deeds_valueWord_291 l dC dI cI adK adV adA u n hx hb hml hown hts hK hE hA hr hlocks _ _ _ _ _ _ _ hm o kc_149 ks_150 hkc hks _ _ _ hP hD hS (lv_sub hl [0] rfl)
  replace hm := if_f c_146 hm
  rcases Classical.em (v1 = 46) with c_152 | c_152
  · replace hm := if_t c_152 hm
    refine lv_tableIn (x := v1) (tgt := 308) hx hb d_Deeds_valueWord_19 (by rw [c_152]; decide) (by rw [c_152]; decide) (by rw [c_152]; rfl) (by decide) ?_
    refine lv_aload_n hx hb d_Deeds_valueWord_308 rfl (lv_at hl 2 rfl) ?_
    refine lv_iload_n hx hb d_Deeds_valueWord_309 rfl (lv_at hl 1 rfl) ?_
    refine lv_iconst (v := 1) hx hb d_Deeds_valueWord_310 (by decide) ?_
    refine lv_iload_n hx hb d_Deeds_valueWord_311 rfl (lv_at hl 0 rfl) ?_
    refine lv_iconst (v := 1) hx hb d_Deeds_valueWord_312 (by decide) ?_
    obtain ⟨i_154, a_155, g_156, k_157, r_158, k_159, h_153, hm, e7, e8⟩ := obG_some hm
    have hFc := x_free hD hS hA
    refine xg_calli (va_runV (As := [.int r_2, .int 1, .int r_6, .int 1]) (rest := []) ⟨hx, hb, hml, hown, hts⟩ (x_Deeds_join l dC dI cI adK adV adA u o g H.size n h_153) (cwV 4 hts (tw_GV tw_cons cw_Deeds_join lk_Deeds_183 in_Deeds_join sel_Deeds_join ini_Deeds) rfl rfl rfl ⟨rfl, hd_Deeds_join⟩ ⟨Nat.le_of_ble_eq_true rfl, Nat.le_of_ble_eq_true rfl⟩) (xpV hK hP hD hS hE hFc xo_10 rfl) rfl rfl hl.1 rfl (lv_room (Nat.le_of_ble_eq_true rfl)) d_Deeds_valueWord_313 ⟨show kc_7 + k_157.1 ≤ mc by omega, show ks_8 + k_157.2 ≤ ms by omega⟩) hS (fun q _ h => hFc q h) hFc (fun kc_161 ks_162 r9 o_160 t9 H locs ekc eks ht hvm e9 hB hz1 hk1 hS => ?_)
    replace hkc : kc_161 + k_159.1 = mc := by omega
    replace hks : ks_162 + k_159.2 = ms := by omega
    clear e7 e8
    clear ekc eks
    have e9 : r_158 = r9 := e9
    subst e9
    obtain ⟨hP, hD⟩ := x_aftg hB ht hFc
    clear hFc hk1 hz1 hvm hB ht
    obtain ⟨e1, e2, e4, e5, e6, e3⟩ := re5 hm
    obtain ⟨hP, hD⟩ := x_eqg e1 e2 e4 hP hD
    refine W.widen (k := mc) (n := ms) (show kc_161 ≤ mc by omega) (show ks_162 ≤ ms by omega) ?_
    exact W.iret hx hb hr (fun t9 ht hW => ⟨⟨_, o_160, rfl, e3.symm, by rw [ht]; exact hP, hD⟩, hS.F ht⟩) hS.2.2 d_Deeds_valueWord_316
  replace hm := if_f c_152 hm
  rcases Classical.em (v1 = 47) with c_163 | c_163
  · replace hm := if_t c_163 hm
    refine lv_tableIn (x := v1) (tgt := 317) hx hb d_Deeds_valueWord_19 (by rw [c_163]; decide) (by rw [c_163]; decide) (by rw [c_163]; rfl) (by decide) ?_
    refine lv_aload_n hx hb d_Deeds_valueWord_317 rfl (lv_at hl 2 rfl) ?_
    refine va_get (D := (dC, dI)) (ci := 10) (v := .ref ((u 1))) (C := R_Deeds) (T := F_Deeds) (N := 8) hx hb htt iw_Deeds hown hK hP 10 xo_10 rfl 0 (Nat.le_of_ble_eq_true rfl) (htt _ lk_Deeds_15) (fun _ h9 => h9) xg_10_0 d_Deeds_valueWord_318 ?_
    refine lv_aload_n hx hb d_Deeds_valueWord_321 rfl (lv_at hl 2 rfl) ?_
    refine lv_iload_n hx hb d_Deeds_valueWord_322 rfl (lv_at hl 1 rfl) ?_
    refine lv_iload_n hx hb d_Deeds_valueWord_323 rfl (lv_at hl 0 rfl) ?_
    obtain ⟨i_165, a_166, r_167, h_164, hm⟩ := ob_some hm
    have hFc := x_free hD hS hA
    refine xg_calli (va_runV (As := [.int r_2, .int r_6]) (rest := [.ref ((u 1))]) ⟨hx, hb, hml, hown, hts⟩ (x_Deeds_isMember l dC dI cI adK adV adA u o g H.size n h_164) (cwV 2 hts (tw_GV tw_cons cw_Deeds_isMember lk_Deeds_187 in_Deeds_isMember sel_Deeds_isMember ini_Deeds) rfl rfl rfl ⟨rfl, hd_Deeds_isMember⟩ ⟨Nat.le_of_ble_eq_true rfl, Nat.le_of_ble_eq_true rfl⟩) (xpV hK hP hD hS hE hFc xo_10 rfl) rfl rfl hl.1 rfl (lv_room (Nat.le_of_ble_eq_true rfl)) d_Deeds_valueWord_324 ⟨show kc_7 + 0 ≤ mc by omega, show ks_8 + 0 ≤ ms by omega⟩) hS (fun q _ h => hFc q h) hFc (fun kc_168 ks_169 r9 u9 t9 H locs ekc eks ht hvm e9 hB hz1 hk1 hS => ?_)
    replace hkc : kc_168 + k2.1 = mc := by omega
    replace hks : ks_169 + k2.2 = ms := by omega
    clear ekc eks
    have e9 : r_167 = r9 := e9
    subst e9
    obtain ⟨hP, hD⟩ := x_aft hB ht hFc
    clear hFc hk1 hz1 hvm hB ht
    obtain ⟨r_171, h_170, hm⟩ := ob0_some hm
    have hFc := x_free0 hS hA
    refine xg_calli (va_runV (As := [.int r_167]) (rest := []) ⟨hx, hb, hml, hown, hts⟩ (x_Heap_truth l dC dI cI adK adV adA u o g H.size n h_170) (cwV 1 hts (tw_GV tw_cons cw_Heap_truth lk_Deeds_150 in_Heap_truth sel_Heap_truth ini_Heap) rfl rfl rfl ⟨rfl, hd_Heap_truth⟩ ⟨Nat.le_of_ble_eq_true rfl, Nat.le_of_ble_eq_true rfl⟩) (xpVr hK hP hS hE hFc xo_1 rfl) rfl rfl hl.1 rfl (lv_room (Nat.le_of_ble_eq_true rfl)) d_Deeds_valueWord_327 ⟨show kc_168 + 0 ≤ mc by omega, show ks_169 + 0 ≤ ms by omega⟩) hS (fun q _ h => hFc q h) hFc (fun kc_172 ks_173 r9 u9 t9 H locs ekc eks ht hvm e9 hB hz1 hk1 hS => ?_)
    replace hkc : kc_172 + k2.1 = mc := by omega
    replace hks : ks_173 + k2.2 = ms := by omega
    clear ekc eks
    have e9 : r_171 = r9 := e9
    subst e9
    replace hP := x_keep hP hk1
    clear hFc hk1 hz1 hvm hB ht
    obtain ⟨e1, e2, e4, e5, e6, e3⟩ := re5 hm
    obtain ⟨hP, hD⟩ := x_eqg e1 e2 e4 hP hD
    refine W.widen (k := mc) (n := ms) (show kc_172 ≤ mc by omega) (show ks_173 ≤ ms by omega) ?_
    exact W.iret hx hb hr (fun t9 ht hW => ⟨⟨_, o, rfl, e3.symm, by rw [ht]; exact hP, hD⟩, hS.F ht⟩) hS.2.2 d_Deeds_valueWord_330
  replace hm := if_f c_163 hm
  rcases Classical.em (v1 = 48) with c_174 | c_174
  · replace hm := if_t c_174 hm
    refine lv_tableIn (x := v1) (tgt := 331) hx hb d_Deeds_valueWord_19 (by rw [c_174]; decide) (by rw [c_174]; decide) (by rw [c_174]; rfl) (by decide) ?_
    refine lv_aload_n hx hb d_Deeds_valueWord_331 rfl (lv_at hl 2 rfl) ?_
    refine lv_iload_n hx hb d_Deeds_valueWord_332 rfl (lv_at hl 1 rfl) ?_
    obtain ⟨i_176, a_177, g_178, k_179, r_180, k_181, h_175, hm, e7, e8⟩ := obG_some hm
    have hFc := x_free hD hS hA
    refine xg_calli (va_runV (As := [.int r_2]) (rest := []) ⟨hx, hb, hml, hown, hts⟩ (x_Deeds_reverse l dC dI cI adK adV adA u o g H.size n h_175) (cwV 1 hts (tw_GV tw_cons cw_Deeds_reverse lk_Deeds_190 in_Deeds_reverse sel_Deeds_reverse ini_Deeds) rfl rfl rfl ⟨rfl, hd_Deeds_reverse⟩ ⟨Nat.le_of_ble_eq_true rfl, Nat.le_of_ble_eq_true rfl⟩) (xpV hK hP hD hS hE hFc xo_10 rfl) rfl rfl hl.1 rfl (lv_room (Nat.le_of_ble_eq_true rfl)) d_Deeds_valueWord_333 ⟨show kc_7 + k_179.1 ≤ mc by omega, show ks_8 + k_179.2 ≤ ms by omega⟩) hS (fun q _ h => hFc q h) hFc (fun kc_183 ks_184 r9 o_182 t9 H locs ekc eks ht hvm e9 hB hz1 hk1 hS => ?_)
    replace hkc : kc_183 + k_181.1 = mc := by omega
    replace hks : ks_184 + k_181.2 = ms := by omega
    clear e7 e8
    clear ekc eks
    have e9 : r_180 = r9 := e9
    subst e9
    obtain ⟨hP, hD⟩ := x_aftg hB ht hFc
    clear hFc hk1 hz1 hvm hB ht
    obtain ⟨e1, e2, e4, e5, e6, e3⟩ := re5 hm
    obtain ⟨hP, hD⟩ := x_eqg e1 e2 e4 hP hD
    refine W.widen (k := mc) (n := ms) (show kc_183 ≤ mc by omega) (show ks_184 ≤ ms by omega) ?_
    exact W.iret hx hb hr (fun t9 ht hW => ⟨⟨_, o_182, rfl, e3.symm, by rw [ht]; exact hP, hD⟩, hS.F ht⟩) hS.2.2 d_Deeds_valueWord_336
  replace hm := if_f c_174 hm
  rcases Classical.em (v1 = 49) with c_185 | c_185
  · replace hm := if_t c_185 hm
    refine lv_tableIn (x := v1) (tgt := 337) hx hb d_Deeds_valueWord_19 (by rw [c_185]; decide) (by rw [c_185]; decide) (by rw [c_185]; rfl) (by decide) ?_
    refine lv_aload_n hx hb d_Deeds_valueWord_337 rfl (lv_at hl 2 rfl) ?_
    refine lv_iload_n hx hb d_Deeds_valueWord_338 rfl (lv_at hl 1 rfl) ?_
    refine lv_iload_n hx hb d_Deeds_valueWord_339 rfl (lv_at hl 0 rfl) ?_
    obtain ⟨i_187, a_188, g_189, k_190, r_191, k_192, h_186, hm, e7, e8⟩ := obG_some hm
    have hFc := x_free hD hS hA
    refine xg_calli (va_runV (As := [.int r_2, .int r_6]) (rest := []) ⟨hx, hb, hml, hown, hts⟩ (x_Deeds_joinLetters l dC dI cI adK adV adA u o g H.size n h_186) (cwV 2 hts (tw_GV tw_cons cw_Deeds_joinLetters lk_Deeds_193 in_Deeds_joinLetters sel_Deeds_joinLetters ini_Deeds) rfl rfl rfl ⟨rfl, hd_Deeds_joinLetters⟩ ⟨Nat.le_of_ble_eq_true rfl, Nat.le_of_ble_eq_true rfl⟩) (xpV hK hP hD hS hE hFc xo_10 rfl) rfl rfl hl.1 rfl (lv_room (Nat.le_of_ble_eq_true rfl)) d_Deeds_valueWord_340 ⟨show kc_7 + k_190.1 ≤ mc by omega, show ks_8 + k_190.2 ≤ ms by omega⟩) hS (fun q _ h => hFc q h) hFc (fun kc_194 ks_195 r9 o_193 t9 H locs ekc eks ht hvm e9 hB hz1 hk1 hS => ?_)
    replace hkc : kc_194 + k_192.1 = mc := by omega
    replace hks : ks_195 + k_192.2 = ms := by omega
    clear e7 e8
    clear ekc eks
    have e9 : r_191 = r9 := e9
    subst e9
    obtain ⟨hP, hD⟩ := x_aftg hB ht hFc
    clear hFc hk1 hz1 hvm hB ht
    obtain ⟨e1, e2, e4, e5, e6, e3⟩ := re5 hm
    obtain ⟨hP, hD⟩ := x_eqg e1 e2 e4 hP hD
    refine W.widen (k := mc) (n := ms) (show kc_194 ≤ mc by omega) (show ks_195 ≤ ms by omega) ?_
    exact W.iret hx hb hr (fun t9 ht hW => ⟨⟨_, o_193, rfl, e3.symm, by rw [ht]; exact hP, hD⟩, hS.F ht⟩) hS.2.2 d_Deeds_valueWord_343
  replace hm := if_f c_185 hm
  refine lv_tableOut (x := v1) (tgt := 344) hx hb d_Deeds_valueWord_19 (by have q0 := lv_neT c_9 (show (32 : Int32).toInt = 32 from by decide); have q1 := lv_neT c_20 (show (33 : Int32).toInt = 33 from by decide); have q2 := lv_neT c_29 (show (34 : Int32).toInt = 34 from by decide); have q3 := lv_neT c_38 (show (35 : Int32).toInt = 35 from by decide); have q4 := lv_neT c_47 (show (36 : Int32).toInt = 36 from by decide); have q5 := lv_neT c_65 (show (37 : Int32).toInt = 37 from by decide); have q6 := lv_neT c_79 (show (38 : Int32).toInt = 38 from by decide); have q7 := lv_neT c_84 (show (39 : Int32).toInt = 39 from by decide); have q8 := lv_neT c_93 (show (40 : Int32).toInt = 40 from by decide); have q9 := lv_neT c_104 (show (41 : Int32).toInt = 41 from by decide); have q10 := lv_neT c_119 (show (42 : Int32).toInt = 42 from by decide); have q11 := lv_neT c_124 (show (43 : Int32).toInt = 43 from by decide); have q12 := lv_neT c_135 (show (44 : Int32).toInt = 44 from by decide); have q13 := lv_neT c_146 (show (45 : Int32).toInt = 45 from by decide); have q14 := lv_neT c_152 (show (46 : Int32).toInt = 46 from by decide); have q15 := lv_neT c_163 (show (47 : Int32).toInt = 47 from by decide); have q16 := lv_neT c_174 (show (48 : Int32).toInt = 48 from by decide); have q17 := lv_neT c_185 (show (49 : Int32).toInt = 49 from by decide); omega) (by decide) ?_
  refine lv_ldc (v := (-2147483647)) hx hb hown (htt _ lk_Deeds_142) d_Deeds_valueWord_344 ?_
  obtain ⟨e1, e2, e4, e5, e6, e3⟩ := re5 hm
  obtain ⟨hP, hD⟩ := x_eqg e1 e2 e4 hP hD
  refine W.widen (k := mc) (n := ms) (show kc_7 ≤ mc by omega) (show ks_8 ≤ ms by omega) ?_
  exact W.iret hx hb hr (fun t9 ht hW => ⟨⟨_, o, rfl, e3.symm, by rw [ht]; exact hP, hD⟩, hS.F ht⟩) hS.2.2 d_Deeds_valueWord_346

def m_Deeds_otherWord (n : Nat) (g : Nat → Nat) (i : Nat → Int32) (a : Nat → Nat → Int32) (v1 : Int32) : Option ((Nat → Int32) × (Nat → Nat → Int32) × Int32) := ob0 (m_Waiting_input n g i a (0 : Int32)) (fun r_2 => ob0 (m_Waiting_input n g i a (1 : Int32)) (fun r_4 => if v1 = 50 then ob (m_Names_make n g i a r_2 r_4) (fun i_7 a_8 r_9 => some (i_7, a_8, r_9)) else if v1 = 51 then ob (m_Deeds_local n g i a r_2) (fun i_12 a_13 r_14 => some (i_12, a_13, r_14)) else if v1 = 52 then ob0 (m_Names_find n g i a r_2) (fun r_17 => some (i, a, r_17)) else if v1 = 53 then ob0 (m_Names_find n g i a r_2) (fun r_20 => if r_20 = ((-2147483646 : Int32)) then ob0 (m_Heap_truth n g i a (0 : Int32)) (fun r_23 => some (i, a, r_23)) else ob0 (m_Heap_truth n g i a (1 : Int32)) (fun r_25 => some (i, a, r_25))) else if v1 = 54 then ob (m_Deeds_tell n g i a r_2 r_4) (fun i_28 a_29 r_30 => some (i_28, a_29, r_30)) else if v1 = 55 then ob0 (m_Deeds_arity n g i a r_2) (fun r_33 => some (i, a, r_33)) else if v1 = 56 then ob0 (m_Deeds_text n g i a r_2) (fun r_36 => some (i, a, r_36)) else if v1 = 57 then ob (m_Deeds_write n g i a r_2 (1 : Int32) (1 : Int32)) (fun i_39 a_40 r_41 => some (i_39, a_40, r_41)) else if v1 = 58 then ob (m_Deeds_write n g i a r_2 (0 : Int32) (1 : Int32)) (fun i_44 a_45 r_46 => some (i_44, a_45, r_46)) else if v1 = 59 then ob (m_Deeds_write n g i a r_2 (1 : Int32) (0 : Int32)) (fun i_49 a_50 r_51 => some (i_49, a_50, r_51)) else some (i, a, (-2147483647))))
set_option maxHeartbeats 4000000 in
set_option maxRecDepth 100000 in
theorem x_Deeds_otherWord (l : Launch) (dC : Nat → ClassId) (dI : Nat → Nat → Nat) (cI : ClassId) (adK adV adA u o g : Nat → Nat) (sz : Nat) (n : Nat) {i : Nat → Int32} {a : Nat → Nat → Int32} {v1 : Int32} {i2 : Nat → Int32} {a2 : Nat → Nat → Int32} {r2 : Int32} (hm : m_Deeds_otherWord n g i a v1 = some (i2, a2, r2)) : Met l y_Deeds_otherWord w_Deeds_otherWord ({ frames := 5, cells := 0, slots := 0, locals := 116 } : Room) (va_Pc [.ref ((u 10)), .int v1] (xE dC dI cI adK adV adA u o g i a sz)) (va_Qi (xR r2) (xB dC dI cI u o g i2 a2 (va_A (TW cI u o i a g) sz)) (va_A (TW cI u o i a g) sz)) 0 0 ((va_A (TW cI u o i a g) sz)) := by
  refine Met.ofW (cc := b_Deeds_otherWord) (maxL := 4) (ret := (some .int)) (by decide) rfl ?_
  intro p e s m args below meth c s₁ B hml hv
  obtain ⟨rfl, hsz, hP, hK, hE, hD0⟩ := hv
  have hx := B.exec
  have hb := B.bytes
  have hr := B.returns
  have hts := atoms_spec (ws := w_Deeds_otherWord) B.pre
  have htt : ∀ w ∈ tw_T, w.before _ s = true := fun w h => hts w (List.mem_cons_of_mem _ h)
  have hown : s.vm.findClass R_Deeds = some m.cls := findClass_of_methodNamed B.named
  have hlocks := B.notSynchronized
  subst hsz
  have hD := hD0.self (sz := s.heap.size)
  generalize hAe : (va_A (TW cI u o i a g) s.heap.size) = A at hD hE ⊢
  have hA : ∀ q : Nat, s.heap.size ≤ q → A q := fun q h => by rw [← hAe]; exact Or.inr h
  have hS : va_S A s.heap s.heap [] := va_S.rf
  have hl := lv_entry ([.ref ((u 10)), .int v1]) (n := 4) (Nat.le_of_ble_eq_true rfl)
  rw [lg_entry_eq]
  generalize (lg_sl ([.ref ((u 10)), .int v1]) ++ List.replicate (4 - (lg_sl ([.ref ((u 10)), .int v1])).length) Slot.unset).toArray = ls at hl ⊢
  have hl : lv_has ls 4 [(0, .ref ((u 10))), (1, .int v1)] := hl
  rw [m_Deeds_otherWord] at hm
  refine lv_aload_n hx hb d_Deeds_otherWord_0 rfl (lv_at hl 0 rfl) ?_
  refine va_get (D := (dC, dI)) (ci := 10) (v := .ref ((u 9))) (C := R_Deeds) (T := F_Deeds) (N := 8) hx hb htt iw_Deeds hown hK hP 10 xo_10 rfl 2 (Nat.le_of_ble_eq_true rfl) (htt _ lk_Deeds_22) (fun _ h9 => h9) xg_10_2 d_Deeds_otherWord_1 ?_
  refine lv_iconst (v := 0) hx hb d_Deeds_otherWord_4 (by decide) ?_
  obtain ⟨r_2, h_1, hm⟩ := ob0_some hm
  have hFc := x_free0 hS hA
  refine va_calli (va_runV (As := [.int 0]) (rest := []) ⟨hx, hb, hml, hown, hts⟩ (x_Waiting_input l dC dI cI adK adV adA u o g s.heap.size n h_1) (cwV 1 hts (tw_GV tw_cons cw_Waiting_input lk_Deeds_62 in_Waiting_input sel_Waiting_input ini_Waiting) rfl rfl rfl ⟨rfl, hd_Waiting_input⟩ ⟨Nat.le_of_ble_eq_true rfl, Nat.le_of_ble_eq_true rfl⟩) (xpVr hK hP hS hE hFc xo_9 rfl) rfl rfl hl.1 rfl (lv_room (Nat.le_of_ble_eq_true rfl)) d_Deeds_otherWord_5 ⟨Nat.le_of_ble_eq_true rfl, Nat.le_of_ble_eq_true rfl⟩) hS (fun q _ h => hFc q h) hFc (fun r9 u9 t9 H locs ht hvm e9 hB hz1 hk1 hS => ?_)
  have e9 : r_2 = r9 := e9
  subst e9
  replace hP := x_keep hP hk1
  clear hFc hk1 hz1 hvm hB ht
  refine lv_istore_n (lv' := [(2, .int r_2), (0, .ref ((u 10))), (1, .int v1)]) hx hb d_Deeds_otherWord_8 rfl hl (by decide) rfl (fun ls hl => ?_)
  refine lv_aload_n hx hb d_Deeds_otherWord_9 rfl (lv_at hl 1 rfl) ?_
  refine va_get (D := (dC, dI)) (ci := 10) (v := .ref ((u 9))) (C := R_Deeds) (T := F_Deeds) (N := 8) hx hb htt iw_Deeds hown hK hP 10 xo_10 rfl 2 (Nat.le_of_ble_eq_true rfl) (htt _ lk_Deeds_22) (fun _ h9 => h9) xg_10_2 d_Deeds_otherWord_10 ?_
  refine lv_iconst (v := 1) hx hb d_Deeds_otherWord_13 (by decide) ?_
  obtain ⟨r_4, h_3, hm⟩ := ob0_some hm
  have hFc := x_free0 hS hA
  refine va_calli (va_runV (As := [.int 1]) (rest := []) ⟨hx, hb, hml, hown, hts⟩ (x_Waiting_input l dC dI cI adK adV adA u o g H.size n h_3) (cwV 1 hts (tw_GV tw_cons cw_Waiting_input lk_Deeds_62 in_Waiting_input sel_Waiting_input ini_Waiting) rfl rfl rfl ⟨rfl, hd_Waiting_input⟩ ⟨Nat.le_of_ble_eq_true rfl, Nat.le_of_ble_eq_true rfl⟩) (xpVr hK hP hS hE hFc xo_9 rfl) rfl rfl hl.1 rfl (lv_room (Nat.le_of_ble_eq_true rfl)) d_Deeds_otherWord_14 ⟨Nat.le_of_ble_eq_true rfl, Nat.le_of_ble_eq_true rfl⟩) hS (fun q _ h => hFc q h) hFc (fun r9 u9 t9 H locs ht hvm e9 hB hz1 hk1 hS => ?_)
  have e9 : r_4 = r9 := e9
  subst e9
  replace hP := x_keep hP hk1
  clear hFc hk1 hz1 hvm hB ht
  refine lv_istore_n (lv' := [(3, .int r_4), (2, .int r_2), (0, .ref ((u 10))), (1, .int v1)]) hx hb d_Deeds_otherWord_17 rfl hl (by decide) rfl (fun ls hl => ?_)
  refine lv_iload_n hx hb d_Deeds_otherWord_18 rfl (lv_at hl 3 rfl) ?_
  rcases Classical.em (v1 = 50) with c_5 | c_5
  · replace hm := if_t c_5 hm
    refine lv_tableIn (x := v1) (tgt := 72) hx hb d_Deeds_otherWord_19 (by rw [c_5]; decide) (by rw [c_5]; decide) (by rw [c_5]; rfl) (by decide) ?_
    refine lv_aload_n hx hb d_Deeds_otherWord_72 rfl (lv_at hl 2 rfl) ?_
    refine va_get (D := (dC, dI)) (ci := 10) (v := .ref ((u 3))) (C := R_Deeds) (T := F_Deeds) (N := 8) hx hb htt iw_Deeds hown hK hP 10 xo_10 rfl 3 (Nat.le_of_ble_eq_true rfl) (htt _ lk_Deeds_26) (fun _ h9 => h9) xg_10_3 d_Deeds_otherWord_73 ?_
    refine lv_iload_n hx hb d_Deeds_otherWord_76 rfl (lv_at hl 1 rfl) ?_
    refine lv_iload_n hx hb d_Deeds_otherWord_77 rfl (lv_at hl 0 rfl) ?_
    obtain ⟨i_7, a_8, r_9, h_6, hm⟩ := ob_some hm
    have hFc := x_free hD hS hA
    refine va_calli (va_runV (As := [.int r_2, .int r_4]) (rest := []) ⟨hx, hb, hml, hown, hts⟩ (x_Names_make l dC dI cI adK adV adA u o g H.size n h_6) (cwV 2 hts (tw_GV tw_cons cw_Names_make lk_Deeds_240 in_Names_make sel_Names_make ini_Names) rfl rfl rfl ⟨rfl, hd_Names_make⟩ ⟨Nat.le_of_ble_eq_true rfl, Nat.le_of_ble_eq_true rfl⟩) (xpV hK hP hD hS hE hFc xo_3 rfl) rfl rfl hl.1 rfl (lv_room (Nat.le_of_ble_eq_true rfl)) d_Deeds_otherWord_78 ⟨Nat.le_of_ble_eq_true rfl, Nat.le_of_ble_eq_true rfl⟩) hS (fun q _ h => hFc q h) hFc (fun r9 u9 t9 H locs ht hvm e9 hB hz1 hk1 hS => ?_)
    have e9 : r_9 = r9 := e9
    subst e9
    obtain ⟨hP, hD⟩ := x_aft hB ht hFc
    clear hFc hk1 hz1 hvm hB ht
    obtain ⟨e1i, e1a, e3⟩ := re3 hm
    obtain ⟨hP, hD⟩ := x_eq e1i e1a hP hD
    exact W.iret hx hb hr (fun t9 ht hW => ⟨⟨_, (), rfl, e3.symm, by rw [ht]; exact hP, hD⟩, hS.F ht⟩) hS.2.2 d_Deeds_otherWord_81
  replace hm := if_f c_5 hm
  rcases Classical.em (v1 = 51) with c_10 | c_10
  · replace hm := if_t c_10 hm
    refine lv_tableIn (x := v1) (tgt := 82) hx hb d_Deeds_otherWord_19 (by rw [c_10]; decide) (by rw [c_10]; decide) (by rw [c_10]; rfl) (by decide) ?_
    refine lv_aload_n hx hb d_Deeds_otherWord_82 rfl (lv_at hl 2 rfl) ?_
    refine lv_iload_n hx hb d_Deeds_otherWord_83 rfl (lv_at hl 1 rfl) ?_
    obtain ⟨i_12, a_13, r_14, h_11, hm⟩ := ob_some hm
    have hFc := x_free hD hS hA
    refine va_calli (va_runV (As := [.int r_2]) (rest := []) ⟨hx, hb, hml, hown, hts⟩ (x_Deeds_local l dC dI cI adK adV adA u o g H.size n h_11) (cwV 1 hts (tw_GV tw_cons cw_Deeds_local lk_Deeds_245 in_Deeds_local sel_Deeds_local ini_Deeds) rfl rfl rfl ⟨rfl, hd_Deeds_local⟩ ⟨Nat.le_of_ble_eq_true rfl, Nat.le_of_ble_eq_true rfl⟩) (xpV hK hP hD hS hE hFc xo_10 rfl) rfl rfl hl.1 rfl (lv_room (Nat.le_of_ble_eq_true rfl)) d_Deeds_otherWord_84 ⟨Nat.le_of_ble_eq_true rfl, Nat.le_of_ble_eq_true rfl⟩) hS (fun q _ h => hFc q h) hFc (fun r9 u9 t9 H locs ht hvm e9 hB hz1 hk1 hS => ?_)
    have e9 : r_14 = r9 := e9
    subst e9
    obtain ⟨hP, hD⟩ := x_aft hB ht hFc
    clear hFc hk1 hz1 hvm hB ht
    obtain ⟨e1i, e1a, e3⟩ := re3 hm
    obtain ⟨hP, hD⟩ := x_eq e1i e1a hP hD
    exact W.iret hx hb hr (fun t9 ht hW => ⟨⟨_, (), rfl, e3.symm, by rw [ht]; exact hP, hD⟩, hS.F ht⟩) hS.2.2 d_Deeds_otherWord_87
  replace hm := if_f c_10 hm
  rcases Classical.em (v1 = 52) with c_15 | c_15
  · replace hm := if_t c_15 hm
    refine lv_tableIn (x := v1) (tgt := 88) hx hb d_Deeds_otherWord_19 (by rw [c_15]; decide) (by rw [c_15]; decide) (by rw [c_15]; rfl) (by decide) ?_
    refine lv_aload_n hx hb d_Deeds_otherWord_88 rfl (lv_at hl 2 rfl) ?_
    refine va_get (D := (dC, dI)) (ci := 10) (v := .ref ((u 3))) (C := R_Deeds) (T := F_Deeds) (N := 8) hx hb htt iw_Deeds hown hK hP 10 xo_10 rfl 3 (Nat.le_of_ble_eq_true rfl) (htt _ lk_Deeds_26) (fun _ h9 => h9) xg_10_3 d_Deeds_otherWord_89 ?_
    refine lv_iload_n hx hb d_Deeds_otherWord_92 rfl (lv_at hl 1 rfl) ?_
    obtain ⟨r_17, h_16, hm⟩ := ob0_some hm
    have hFc := x_free0 hS hA
    refine va_calli (va_runV (As := [.int r_2]) (rest := []) ⟨hx, hb, hml, hown, hts⟩ (x_Names_find l dC dI cI adK adV adA u o g H.size n h_16) (cwV 1 hts (tw_GV tw_cons cw_Names_find lk_Deeds_248 in_Names_find sel_Names_find ini_Names) rfl rfl rfl ⟨rfl, hd_Names_find⟩ ⟨Nat.le_of_ble_eq_true rfl, Nat.le_of_ble_eq_true rfl⟩) (xpVr hK hP hS hE hFc xo_3 rfl) rfl rfl hl.1 rfl (lv_room (Nat.le_of_ble_eq_true rfl)) d_Deeds_otherWord_93 ⟨Nat.le_of_ble_eq_true rfl, Nat.le_of_ble_eq_true rfl⟩) hS (fun q _ h => hFc q h) hFc (fun r9 u9 t9 H locs ht hvm e9 hB hz1 hk1 hS => ?_)
    have e9 : r_17 = r9 := e9
    subst e9
    replace hP := x_keep hP hk1
    clear hFc hk1 hz1 hvm hB ht
    obtain ⟨e1i, e1a, e3⟩ := re3 hm
    obtain ⟨hP, hD⟩ := x_eq e1i e1a hP hD
    exact W.iret hx hb hr (fun t9 ht hW => ⟨⟨_, (), rfl, e3.symm, by rw [ht]; exact hP, hD⟩, hS.F ht⟩) hS.2.2 d_Deeds_otherWord_96
  replace hm := if_f c_15 hm
  rcases Classical.em (v1 = 53) with c_18 | c_18
  · replace hm := if_t c_18 hm
    refine lv_tableIn (x := v1) (tgt := 97) hx hb d_Deeds_otherWord_19 (by rw [c_18]; decide) (by rw [c_18]; decide) (by rw [c_18]; rfl) (by decide) ?_
    refine lv_aload_n hx hb d_Deeds_otherWord_97 rfl (lv_at hl 2 rfl) ?_
    refine va_get (D := (dC, dI)) (ci := 10) (v := .ref ((u 1))) (C := R_Deeds) (T := F_Deeds) (N := 8) hx hb htt iw_Deeds hown hK hP 10 xo_10 rfl 0 (Nat.le_of_ble_eq_true rfl) (htt _ lk_Deeds_15) (fun _ h9 => h9) xg_10_0 d_Deeds_otherWord_98 ?_
    refine lv_aload_n hx hb d_Deeds_otherWord_101 rfl (lv_at hl 2 rfl) ?_
    refine va_get (D := (dC, dI)) (ci := 10) (v := .ref ((u 3))) (C := R_Deeds) (T := F_Deeds) (N := 8) hx hb htt iw_Deeds hown hK hP 10 xo_10 rfl 3 (Nat.le_of_ble_eq_true rfl) (htt _ lk_Deeds_26) (fun _ h9 => h9) xg_10_3 d_Deeds_otherWord_102 ?_
    refine lv_iload_n hx hb d_Deeds_otherWord_105 rfl (lv_at hl 1 rfl) ?_
    obtain ⟨r_20, h_19, hm⟩ := ob0_some hm
    have hFc := x_free0 hS hA
    refine va_calli (va_runV (As := [.int r_2]) (rest := [.ref ((u 1))]) ⟨hx, hb, hml, hown, hts⟩ (x_Names_find l dC dI cI adK adV adA u o g H.size n h_19) (cwV 1 hts (tw_GV tw_cons cw_Names_find lk_Deeds_248 in_Names_find sel_Names_find ini_Names) rfl rfl rfl ⟨rfl, hd_Names_find⟩ ⟨Nat.le_of_ble_eq_true rfl, Nat.le_of_ble_eq_true rfl⟩) (xpVr hK hP hS hE hFc xo_3 rfl) rfl rfl hl.1 rfl (lv_room (Nat.le_of_ble_eq_true rfl)) d_Deeds_otherWord_106 ⟨Nat.le_of_ble_eq_true rfl, Nat.le_of_ble_eq_true rfl⟩) hS (fun q _ h => hFc q h) hFc (fun r9 u9 t9 H locs ht hvm e9 hB hz1 hk1 hS => ?_)
    have e9 : r_20 = r9 := e9
    subst e9
    replace hP := x_keep hP hk1
    clear hFc hk1 hz1 hvm hB ht
    refine lv_ldc (v := (-2147483646)) hx hb hown (htt _ lk_Deeds_251) d_Deeds_otherWord_109 ?_
    refine lv_icmp_eq (tgt := 118) hx hb d_Deeds_otherWord_111 (by decide) (fun c_21 => ?_) (fun c_21 => ?_)
    · replace hm := if_t c_21 hm
      refine lv_iconst (v := 0) hx hb d_Deeds_otherWord_118 (by decide) ?_
      obtain ⟨r_23, h_22, hm⟩ := ob0_some hm
      have hFc := x_free0 hS hA
      refine va_calli (va_runV (As := [.int 0]) (rest := []) ⟨hx, hb, hml, hown, hts⟩ (x_Heap_truth l dC dI cI adK adV adA u o g H.size n h_22) (cwV 1 hts (tw_GV tw_cons cw_Heap_truth lk_Deeds_150 in_Heap_truth sel_Heap_truth ini_Heap) rfl rfl rfl ⟨rfl, hd_Heap_truth⟩ ⟨Nat.le_of_ble_eq_true rfl, Nat.le_of_ble_eq_true rfl⟩) (xpVr hK hP hS hE hFc xo_1 rfl) rfl rfl hl.1 rfl (lv_room (Nat.le_of_ble_eq_true rfl)) d_Deeds_otherWord_119 ⟨Nat.le_of_ble_eq_true rfl, Nat.le_of_ble_eq_true rfl⟩) hS (fun q _ h => hFc q h) hFc (fun r9 u9 t9 H locs ht hvm e9 hB hz1 hk1 hS => ?_)
      have e9 : r_23 = r9 := e9
      subst e9
      replace hP := x_keep hP hk1
      clear hFc hk1 hz1 hvm hB ht
      obtain ⟨e1i, e1a, e3⟩ := re3 hm
      obtain ⟨hP, hD⟩ := x_eq e1i e1a hP hD
      exact W.iret hx hb hr (fun t9 ht hW => ⟨⟨_, (), rfl, e3.symm, by rw [ht]; exact hP, hD⟩, hS.F ht⟩) hS.2.2 d_Deeds_otherWord_122
    · replace hm := if_f c_21 hm
      refine lv_iconst (v := 1) hx hb d_Deeds_otherWord_114 (by decide) ?_
      refine lv_goto (tgt := 119) hx hb d_Deeds_otherWord_115 (by decide) ?_
      obtain ⟨r_25, h_24, hm⟩ := ob0_some hm
      have hFc := x_free0 hS hA
      refine va_calli (va_runV (As := [.int 1]) (rest := []) ⟨hx, hb, hml, hown, hts⟩ (x_Heap_truth l dC dI cI adK adV adA u o g H.size n h_24) (cwV 1 hts (tw_GV tw_cons cw_Heap_truth lk_Deeds_150 in_Heap_truth sel_Heap_truth ini_Heap) rfl rfl rfl ⟨rfl, hd_Heap_truth⟩ ⟨Nat.le_of_ble_eq_true rfl, Nat.le_of_ble_eq_true rfl⟩) (xpVr hK hP hS hE hFc xo_1 rfl) rfl rfl hl.1 rfl (lv_room (Nat.le_of_ble_eq_true rfl)) d_Deeds_otherWord_119 ⟨Nat.le_of_ble_eq_true rfl, Nat.le_of_ble_eq_true rfl⟩) hS (fun q _ h => hFc q h) hFc (fun r9 u9 t9 H locs ht hvm e9 hB hz1 hk1 hS => ?_)
      have e9 : r_25 = r9 := e9
      subst e9
      replace hP := x_keep hP hk1
      clear hFc hk1 hz1 hvm hB ht
      obtain ⟨e1i, e1a, e3⟩ := re3 hm
      obtain ⟨hP, hD⟩ := x_eq e1i e1a hP hD
      exact W.iret hx hb hr (fun t9 ht hW => ⟨⟨_, (), rfl, e3.symm, by rw [ht]; exact hP, hD⟩, hS.F ht⟩) hS.2.2 d_Deeds_otherWord_122
  replace hm := if_f c_18 hm
  rcases Classical.em (v1 = 54) with c_26 | c_26
  · replace hm := if_t c_26 hm
    refine lv_tableIn (x := v1) (tgt := 123) hx hb d_Deeds_otherWord_19 (by rw [c_26]; decide) (by rw [c_26]; decide) (by rw [c_26]; rfl) (by decide) ?_
    refine lv_aload_n hx hb d_Deeds_otherWord_123 rfl (lv_at hl 2 rfl) ?_
    refine lv_iload_n hx hb d_Deeds_otherWord_124 rfl (lv_at hl 1 rfl) ?_
    refine lv_iload_n hx hb d_Deeds_otherWord_125 rfl (lv_at hl 0 rfl) ?_
    obtain ⟨i_28, a_29, r_30, h_27, hm⟩ := ob_some hm
    have hFc := x_free hD hS hA
    refine va_calli (va_runV (As := [.int r_2, .int r_4]) (rest := []) ⟨hx, hb, hml, hown, hts⟩ (x_Deeds_tell l dC dI cI adK adV adA u o g H.size n h_27) (cwV 2 hts (tw_GV tw_cons cw_Deeds_tell lk_Deeds_252 in_Deeds_tell sel_Deeds_tell ini_Deeds) rfl rfl rfl ⟨rfl, hd_Deeds_tell⟩ ⟨Nat.le_of_ble_eq_true rfl, Nat.le_of_ble_eq_true rfl⟩) (xpV hK hP hD hS hE hFc xo_10 rfl) rfl rfl hl.1 rfl (lv_room (Nat.le_of_ble_eq_true rfl)) d_Deeds_otherWord_126 ⟨Nat.le_of_ble_eq_true rfl, Nat.le_of_ble_eq_true rfl⟩) hS (fun q _ h => hFc q h) hFc (fun r9 u9 t9 H locs ht hvm e9 hB hz1 hk1 hS => ?_)
    have e9 : r_30 = r9 := e9
    subst e9
    obtain ⟨hP, hD⟩ := x_aft hB ht hFc
    clear hFc hk1 hz1 hvm hB ht
    obtain ⟨e1i, e1a, e3⟩ := re3 hm
    obtain ⟨hP, hD⟩ := x_eq e1i e1a hP hD
    exact W.iret hx hb hr (fun t9 ht hW => ⟨⟨_, (), rfl, e3.symm, by rw [ht]; exact hP, hD⟩, hS.F ht⟩) hS.2.2 d_Deeds_otherWord_129
  replace hm := if_f c_26 hm
  rcases Classical.em (v1 = 55) with c_31 | c_31
  · replace hm := if_t c_31 hm
    refine lv_tableIn (x := v1) (tgt := 130) hx hb d_Deeds_otherWord_19 (by rw [c_31]; decide) (by rw [c_31]; decide) (by rw [c_31]; rfl) (by decide) ?_
    refine lv_aload_n hx hb d_Deeds_otherWord_130 rfl (lv_at hl 2 rfl) ?_
    refine lv_iload_n hx hb d_Deeds_otherWord_131 rfl (lv_at hl 1 rfl) ?_
    obtain ⟨r_33, h_32, hm⟩ := ob0_some hm
    have hFc := x_free0 hS hA
    refine va_calli (va_runV (As := [.int r_2]) (rest := []) ⟨hx, hb, hml, hown, hts⟩ (x_Deeds_arity l dC dI cI adK adV adA u o g H.size n h_32) (cwV 1 hts (tw_GV tw_cons cw_Deeds_arity lk_Deeds_255 in_Deeds_arity sel_Deeds_arity ini_Deeds) rfl rfl rfl ⟨rfl, hd_Deeds_arity⟩ ⟨Nat.le_of_ble_eq_true rfl, Nat.le_of_ble_eq_true rfl⟩) (xpVr hK hP hS hE hFc xo_10 rfl) rfl rfl hl.1 rfl (lv_room (Nat.le_of_ble_eq_true rfl)) d_Deeds_otherWord_132 ⟨Nat.le_of_ble_eq_true rfl, Nat.le_of_ble_eq_true rfl⟩) hS (fun q _ h => hFc q h) hFc (fun r9 u9 t9 H locs ht hvm e9 hB hz1 hk1 hS => ?_)
    have e9 : r_33 = r9 := e9
    subst e9
    replace hP := x_keep hP hk1
    clear hFc hk1 hz1 hvm hB ht
    obtain ⟨e1i, e1a, e3⟩ := re3 hm
    obtain ⟨hP, hD⟩ := x_eq e1i e1a hP hD
    exact W.iret hx hb hr (fun t9 ht hW => ⟨⟨_, (), rfl, e3.symm, by rw [ht]; exact hP, hD⟩, hS.F ht⟩) hS.2.2 d_Deeds_otherWord_135
  replace hm := if_f c_31 hm
  rcases Classical.em (v1 = 56) with c_34 | c_34
  · replace hm := if_t c_34 hm
    refine lv_tableIn (x := v1) (tgt := 136) hx hb d_Deeds_otherWord_19 (by rw [c_34]; decide) (by rw [c_34]; decide) (by rw [c_34]; rfl) (by decide) ?_
    refine lv_aload_n hx hb d_Deeds_otherWord_136 rfl (lv_at hl 2 rfl) ?_
    refine lv_iload_n hx hb d_Deeds_otherWord_137 rfl (lv_at hl 1 rfl) ?_
    obtain ⟨r_36, h_35, hm⟩ := ob0_some hm
    have hFc := x_free0 hS hA
    refine va_calli (va_runV (As := [.int r_2]) (rest := []) ⟨hx, hb, hml, hown, hts⟩ (x_Deeds_text l dC dI cI adK adV adA u o g H.size n h_35) (cwV 1 hts (tw_GV tw_cons cw_Deeds_text lk_Deeds_256 in_Deeds_text sel_Deeds_text ini_Deeds) rfl rfl rfl ⟨rfl, hd_Deeds_text⟩ ⟨Nat.le_of_ble_eq_true rfl, Nat.le_of_ble_eq_true rfl⟩) (xpVr hK hP hS hE hFc xo_10 rfl) rfl rfl hl.1 rfl (lv_room (Nat.le_of_ble_eq_true rfl)) d_Deeds_otherWord_138 ⟨Nat.le_of_ble_eq_true rfl, Nat.le_of_ble_eq_true rfl⟩) hS (fun q _ h => hFc q h) hFc (fun r9 u9 t9 H locs ht hvm e9 hB hz1 hk1 hS => ?_)
    have e9 : r_36 = r9 := e9
    subst e9
    replace hP := x_keep hP hk1
    clear hFc hk1 hz1 hvm hB ht
    obtain ⟨e1i, e1a, e3⟩ := re3 hm
    obtain ⟨hP, hD⟩ := x_eq e1i e1a hP hD
    exact W.iret hx hb hr (fun t9 ht hW => ⟨⟨_, (), rfl, e3.symm, by rw [ht]; exact hP, hD⟩, hS.F ht⟩) hS.2.2 d_Deeds_otherWord_141
  replace hm := if_f c_34 hm
  rcases Classical.em (v1 = 57) with c_37 | c_37
  · replace hm := if_t c_37 hm
    refine lv_tableIn (x := v1) (tgt := 142) hx hb d_Deeds_otherWord_19 (by rw [c_37]; decide) (by rw [c_37]; decide) (by rw [c_37]; rfl) (by decide) ?_
    refine lv_aload_n hx hb d_Deeds_otherWord_142 rfl (lv_at hl 2 rfl) ?_
    refine lv_iload_n hx hb d_Deeds_otherWord_143 rfl (lv_at hl 1 rfl) ?_
    refine lv_iconst (v := 1) hx hb d_Deeds_otherWord_144 (by decide) ?_
    refine lv_iconst (v := 1) hx hb d_Deeds_otherWord_145 (by decide) ?_
    obtain ⟨i_39, a_40, r_41, h_38, hm⟩ := ob_some hm
    have hFc := x_free hD hS hA
    refine va_calli (va_runV (As := [.int r_2, .int 1, .int 1]) (rest := []) ⟨hx, hb, hml, hown, hts⟩ (x_Deeds_write l dC dI cI adK adV adA u o g H.size n h_38) (cwV 3 hts (tw_GV tw_cons cw_Deeds_write lk_Deeds_258 in_Deeds_write sel_Deeds_write ini_Deeds) rfl rfl rfl ⟨rfl, hd_Deeds_write⟩ ⟨Nat.le_of_ble_eq_true rfl, Nat.le_of_ble_eq_true rfl⟩) (xpV hK hP hD hS hE hFc xo_10 rfl) rfl rfl hl.1 rfl (lv_room (Nat.le_of_ble_eq_true rfl)) d_Deeds_otherWord_146 ⟨Nat.le_of_ble_eq_true rfl, Nat.le_of_ble_eq_true rfl⟩) hS (fun q _ h => hFc q h) hFc (fun r9 u9 t9 H locs ht hvm e9 hB hz1 hk1 hS => ?_)
    have e9 : r_41 = r9 := e9
    subst e9
    obtain ⟨hP, hD⟩ := x_aft hB ht hFc
    clear hFc hk1 hz1 hvm hB ht
    obtain ⟨e1i, e1a, e3⟩ := re3 hm
    obtain ⟨hP, hD⟩ := x_eq e1i e1a hP hD
    exact W.iret hx hb hr (fun t9 ht hW => ⟨⟨_, (), rfl, e3.symm, by rw [ht]; exact hP, hD⟩, hS.F ht⟩) hS.2.2 d_Deeds_otherWord_149
  replace hm := if_f c_37 hm
  rcases Classical.em (v1 = 58) with c_42 | c_42
  · replace hm := if_t c_42 hm
    refine lv_tableIn (x := v1) (tgt := 150) hx hb d_Deeds_otherWord_19 (by rw [c_42]; decide) (by rw [c_42]; decide) (by rw [c_42]; rfl) (by decide) ?_
    refine lv_aload_n hx hb d_Deeds_otherWord_150 rfl (lv_at hl 2 rfl) ?_
    refine lv_iload_n hx hb d_Deeds_otherWord_151 rfl (lv_at hl 1 rfl) ?_
    refine lv_iconst (v := 0) hx hb d_Deeds_otherWord_152 (by decide) ?_
    refine lv_iconst (v := 1) hx hb d_Deeds_otherWord_153 (by decide) ?_
    obtain ⟨i_44, a_45, r_46, h_43, hm⟩ := ob_some hm
    have hFc := x_free hD hS hA
    refine va_calli (va_runV (As := [.int r_2, .int 0, .int 1]) (rest := []) ⟨hx, hb, hml, hown, hts⟩ (x_Deeds_write l dC dI cI adK adV adA u o g H.size n h_43) (cwV 3 hts (tw_GV tw_cons cw_Deeds_write lk_Deeds_258 in_Deeds_write sel_Deeds_write ini_Deeds) rfl rfl rfl ⟨rfl, hd_Deeds_write⟩ ⟨Nat.le_of_ble_eq_true rfl, Nat.le_of_ble_eq_true rfl⟩) (xpV hK hP hD hS hE hFc xo_10 rfl) rfl rfl hl.1 rfl (lv_room (Nat.le_of_ble_eq_true rfl)) d_Deeds_otherWord_154 ⟨Nat.le_of_ble_eq_true rfl, Nat.le_of_ble_eq_true rfl⟩) hS (fun q _ h => hFc q h) hFc (fun r9 u9 t9 H locs ht hvm e9 hB hz1 hk1 hS => ?_)
    have e9 : r_46 = r9 := e9
    subst e9
    obtain ⟨hP, hD⟩ := x_aft hB ht hFc
    clear hFc hk1 hz1 hvm hB ht
    obtain ⟨e1i, e1a, e3⟩ := re3 hm
    obtain ⟨hP, hD⟩ := x_eq e1i e1a hP hD
    exact W.iret hx hb hr (fun t9 ht hW => ⟨⟨_, (), rfl, e3.symm, by rw [ht]; exact hP, hD⟩, hS.F ht⟩) hS.2.2 d_Deeds_otherWord_157
  replace hm := if_f c_42 hm
  rcases Classical.em (v1 = 59) with c_47 | c_47
  · replace hm := if_t c_47 hm
    refine lv_tableIn (x := v1) (tgt := 158) hx hb d_Deeds_otherWord_19 (by rw [c_47]; decide) (by rw [c_47]; decide) (by rw [c_47]; rfl) (by decide) ?_
    refine lv_aload_n hx hb d_Deeds_otherWord_158 rfl (lv_at hl 2 rfl) ?_
    refine lv_iload_n hx hb d_Deeds_otherWord_159 rfl (lv_at hl 1 rfl) ?_
    refine lv_iconst (v := 1) hx hb d_Deeds_otherWord_160 (by decide) ?_
    refine lv_iconst (v := 0) hx hb d_Deeds_otherWord_161 (by decide) ?_
    obtain ⟨i_49, a_50, r_51, h_48, hm⟩ := ob_some hm
    have hFc := x_free hD hS hA
    refine va_calli (va_runV (As := [.int r_2, .int 1, .int 0]) (rest := []) ⟨hx, hb, hml, hown, hts⟩ (x_Deeds_write l dC dI cI adK adV adA u o g H.size n h_48) (cwV 3 hts (tw_GV tw_cons cw_Deeds_write lk_Deeds_258 in_Deeds_write sel_Deeds_write ini_Deeds) rfl rfl rfl ⟨rfl, hd_Deeds_write⟩ ⟨Nat.le_of_ble_eq_true rfl, Nat.le_of_ble_eq_true rfl⟩) (xpV hK hP hD hS hE hFc xo_10 rfl) rfl rfl hl.1 rfl (lv_room (Nat.le_of_ble_eq_true rfl)) d_Deeds_otherWord_162 ⟨Nat.le_of_ble_eq_true rfl, Nat.le_of_ble_eq_true rfl⟩) hS (fun q _ h => hFc q h) hFc (fun r9 u9 t9 H locs ht hvm e9 hB hz1 hk1 hS => ?_)
    have e9 : r_51 = r9 := e9
    subst e9
    obtain ⟨hP, hD⟩ := x_aft hB ht hFc
    clear hFc hk1 hz1 hvm hB ht
    obtain ⟨e1i, e1a, e3⟩ := re3 hm
    obtain ⟨hP, hD⟩ := x_eq e1i e1a hP hD
    exact W.iret hx hb hr (fun t9 ht hW => ⟨⟨_, (), rfl, e3.symm, by rw [ht]; exact hP, hD⟩, hS.F ht⟩) hS.2.2 d_Deeds_otherWord_165
  replace hm := if_f c_47 hm
  refine lv_tableOut (x := v1) (tgt := 166) hx hb d_Deeds_otherWord_19 (by have q0 := lv_neT c_5 (show (50 : Int32).toInt = 50 from by decide); have q1 := lv_neT c_10 (show (51 : Int32).toInt = 51 from by decide); have q2 := lv_neT c_15 (show (52 : Int32).toInt = 52 from by decide); have q3 := lv_neT c_18 (show (53 : Int32).toInt = 53 from by decide); have q4 := lv_neT c_26 (show (54 : Int32).toInt = 54 from by decide); have q5 := lv_neT c_31 (show (55 : Int32).toInt = 55 from by decide); have q6 := lv_neT c_34 (show (56 : Int32).toInt = 56 from by decide); have q7 := lv_neT c_37 (show (57 : Int32).toInt = 57 from by decide); have q8 := lv_neT c_42 (show (58 : Int32).toInt = 58 from by decide); have q9 := lv_neT c_47 (show (59 : Int32).toInt = 59 from by decide); omega) (by decide) ?_
  refine lv_ldc (v := (-2147483647)) hx hb hown (htt _ lk_Deeds_142) d_Deeds_otherWord_166 ?_
  obtain ⟨e1i, e1a, e3⟩ := re3 hm
  obtain ⟨hP, hD⟩ := x_eq e1i e1a hP hD
  exact W.iret hx hb hr (fun t9 ht hW => ⟨⟨_, (), rfl, e3.symm, by rw [ht]; exact hP, hD⟩, hS.F ht⟩) hS.2.2 d_Deeds_otherWord_168

def m_Machine_runningWord (n : Nat) (g : Nat → Nat) (i : Nat → Int32) (a : Nat → Nat → Int32) (v1 : Int32) : Option ((Nat → Int32) × (Nat → Nat → Int32) × (Nat → Nat) × (Nat × Nat) × Int32) := ob0 (m_Waiting_input n g i a (0 : Int32)) (fun r_2 => ob0 (m_Waiting_input n g i a (1 : Int32)) (fun r_6 => if v1 = 60 then ob (m_Machine_open n g i a (6 : Int32) r_2 (-2147483648 : Int32) (-2147483648 : Int32)) (fun i_11 a_12 r_13 => some (i_11, a_12, g, (0, 0), r_13)) else if v1 = 61 then ob0 (m_Deeds_isTrue n g i a (0 : Int32)) (fun r_18 => if r_18 = ((0 : Int32)) then some (i, a, g, (0, 0), (-2147483648)) else ob (m_Machine_open n g i a (2 : Int32) r_6 (-2147483648 : Int32) (-2147483648 : Int32)) (fun i_23 a_24 r_25 => some (i_23, a_24, g, (0, 0), r_25))) else if v1 = 62 then ob0 (m_Deeds_isTrue n g i a (0 : Int32)) (fun r_30 => if r_30 = ((0 : Int32)) then ob0 (m_Waiting_input n g i a (2 : Int32)) (fun r_35 => ob (m_Machine_open n g i a (6 : Int32) r_35 (-2147483648 : Int32) (-2147483648 : Int32)) (fun i_39 a_40 r_41 => some (i_39, a_40, g, (0, 0), r_41))) else ob (m_Machine_open n g i a (6 : Int32) r_6 (-2147483648 : Int32) (-2147483648 : Int32)) (fun i_45 a_46 r_47 => some (i_45, a_46, g, (0, 0), r_47))) else if v1 = 63 then ob (m_Machine_repeat n g i a (r_2 >>> ((1 : Int32) &&& 31)) r_6) (fun i_52 a_53 r_54 => some (i_52, a_53, g, (0, 0), r_54)) else if v1 = 64 then ob0 (m_Machine_repcount n g i a) (fun r_59 => some (i, a, g, (0, 0), r_59)) else if v1 = 65 then ob (m_Machine_open n g i a (9 : Int32) r_2 (-2147483648 : Int32) r_6) (fun i_64 a_65 r_66 => some (i_64, a_65, g, (0, 0), r_66)) else if v1 = 66 then ob0 (m_Heap_count n g i a r_2) (fun r_71 => if r_71 = ((0 : Int32)) then some (i, a, g, (0, 0), (-2147483648)) else ob (m_Machine_open n g i a (5 : Int32) r_6 (-2147483648 : Int32) r_2) (fun i_76 a_77 r_78 => some (i_76, a_77, g, (0, 0), r_78))) else if v1 = 67 then ob0 (m_Machine_current n g i a) (fun r_83 => some (i, a, g, (0, 0), r_83)) else if v1 = 68 then obG (m_Machine_map n g i a r_2 r_6) (fun i_88 a_89 g_90 r_92 => some (i_88, a_89, g_90, (0, 0), r_92)) else if v1 = 69 then ob (m_Machine_ask n g i a (r_2 >>> ((1 : Int32) &&& 31)) r_6) (fun i_99 a_100 r_101 => some (i_99, a_100, g, (0, 0), r_101)) else if v1 = 70 then ob (m_Machine_stopCall n g i a) (fun i_106 a_107 r_108 => some (i_106, a_107, g, (0, 0), r_108)) else if v1 = 71 then ob (m_Machine_leaveCall n g i a r_2) (fun i_113 a_114 r_115 => some (i_113, a_114, g, (0, 0), r_115)) else if v1 = 72 then ob (m_Machine_open n g i a (8 : Int32) r_6 r_2 (-2147483648 : Int32)) (fun i_120 a_121 r_122 => some (i_120, a_121, g, (0, 0), r_122)) else if v1 = 73 then ob (m_Machine_throwTo n g i a r_2) (fun i_127 a_128 r_129 => some (i_127, a_128, g, (0, 0), r_129)) else if v1 = 74 then ob (m_Machine_tellCaught n g i a) (fun i_134 a_135 r_136 => some (i_134, a_135, g, (0, 0), r_136)) else some (i, a, g, (0, 0), (-2147483647))))
set_option maxHeartbeats 4000000 in
set_option maxRecDepth 100000 in
theorem x_Machine_runningWord (l : Launch) (dC : Nat → ClassId) (dI : Nat → Nat → Nat) (cI : ClassId) (adK adV adA u o g : Nat → Nat) (sz : Nat) (n : Nat) {i : Nat → Int32} {a : Nat → Nat → Int32} {v1 : Int32} {i2 : Nat → Int32} {a2 : Nat → Nat → Int32} {g2 : Nat → Nat} {k2 : Nat × Nat} {r2 : Int32} (hm : m_Machine_runningWord n g i a v1 = some (i2, a2, g2, k2, r2)) : Met l y_Machine_runningWord w_Machine_runningWord ({ frames := 5, cells := k2.1, slots := k2.2, locals := 131 } : Room) (va_Pc [.ref ((u 11)), .int v1] (xE dC dI cI adK adV adA u o g i a sz)) (va_Qi (xRg r2) (xBg dC dI cI u g2 i2 a2 (va_A (TW cI u o i a g) sz)) (va_A (TW cI u o i a g) sz)) k2.1 k2.2 ((va_A (TW cI u o i a g) sz)) := by
  refine Met.ofW (cc := b_Machine_runningWord) (maxL := 4) (ret := (some .int)) (by decide) rfl ?_
  intro p e s m args below meth c s₁ B hml hv
  obtain ⟨rfl, hsz, hP, hK, hE, hD0⟩ := hv
  have hx := B.exec
  have hb := B.bytes
  have hr := B.returns
  have hts := atoms_spec (ws := w_Machine_runningWord) B.pre
  have htt : ∀ w ∈ tw_T, w.before _ s = true := fun w h => hts w (List.mem_cons_of_mem _ h)
  have hown : s.vm.findClass R_Machine = some m.cls := findClass_of_methodNamed B.named
  have hlocks := B.notSynchronized
  subst hsz
  have hD := hD0.self (sz := s.heap.size)
  generalize hAe : (va_A (TW cI u o i a g) s.heap.size) = A at hD hE ⊢
  have hA : ∀ q : Nat, s.heap.size ≤ q → A q := fun q h => by rw [← hAe]; exact Or.inr h
  have hS : va_S A s.heap s.heap [] := va_S.rf
  obtain ⟨mc, ms, emc, ems⟩ : ∃ mc ms : Nat, k2.1 = mc ∧ k2.2 = ms := ⟨_, _, rfl, rfl⟩
  have hkc : 0 + k2.1 = mc := by rw [Nat.zero_add]; exact emc
  have hks : 0 + k2.2 = ms := by rw [Nat.zero_add]; exact ems
  rw [emc, ems]
  clear emc ems
  have hl := lv_entry ([.ref ((u 11)), .int v1]) (n := 4) (Nat.le_of_ble_eq_true rfl)
  rw [lg_entry_eq]
  generalize (lg_sl ([.ref ((u 11)), .int v1]) ++ List.replicate (4 - (lg_sl ([.ref ((u 11)), .int v1])).length) Slot.unset).toArray = ls at hl ⊢
  have hl : lv_has ls 4 [(0, .ref ((u 11))), (1, .int v1)] := hl
  rw [m_Machine_runningWord] at hm
  refine lv_aload_n hx hb d_Machine_runningWord_0 rfl (lv_at hl 0 rfl) ?_
  refine va_get (D := (dC, dI)) (ci := 11) (v := .ref ((u 9))) (C := R_Machine) (T := F_Machine) (N := 9) hx hb htt iw_Machine hown hK hP 11 xo_11 rfl 2 (Nat.le_of_ble_eq_true rfl) (htt _ lk_Machine_22) (fun _ h9 => h9) xg_11_2 d_Machine_runningWord_1 ?_
  refine lv_iconst (v := 0) hx hb d_Machine_runningWord_4 (by decide) ?_
  obtain ⟨r_2, h_1, hm⟩ := ob0_some hm
  have hFc := x_free0 hS hA
  refine xg_calli (va_runV (As := [.int 0]) (rest := []) ⟨hx, hb, hml, hown, hts⟩ (x_Waiting_input l dC dI cI adK adV adA u o g s.heap.size n h_1) (cwV 1 hts (tw_GV tw_cons cw_Waiting_input lk_Machine_347 in_Waiting_input sel_Waiting_input ini_Waiting) rfl rfl rfl ⟨rfl, hd_Waiting_input⟩ ⟨Nat.le_of_ble_eq_true rfl, Nat.le_of_ble_eq_true rfl⟩) (xpVr hK hP hS hE hFc xo_9 rfl) rfl rfl hl.1 rfl (lv_room (Nat.le_of_ble_eq_true rfl)) d_Machine_runningWord_5 ⟨show 0 + 0 ≤ mc by omega, show 0 + 0 ≤ ms by omega⟩) hS (fun q _ h => hFc q h) hFc (fun kc_3 ks_4 r9 u9 t9 H locs ekc eks ht hvm e9 hB hz1 hk1 hS => ?_)
  replace hkc : kc_3 + k2.1 = mc := by omega
  replace hks : ks_4 + k2.2 = ms := by omega
  clear ekc eks
  have e9 : r_2 = r9 := e9
  subst e9
  replace hP := x_keep hP hk1
  clear hFc hk1 hz1 hvm hB ht
  refine lv_istore_n (lv' := [(2, .int r_2), (0, .ref ((u 11))), (1, .int v1)]) hx hb d_Machine_runningWord_8 rfl hl (by decide) rfl (fun ls hl => ?_)
  refine lv_aload_n hx hb d_Machine_runningWord_9 rfl (lv_at hl 1 rfl) ?_
  refine va_get (D := (dC, dI)) (ci := 11) (v := .ref ((u 9))) (C := R_Machine) (T := F_Machine) (N := 9) hx hb htt iw_Machine hown hK hP 11 xo_11 rfl 2 (Nat.le_of_ble_eq_true rfl) (htt _ lk_Machine_22) (fun _ h9 => h9) xg_11_2 d_Machine_runningWord_10 ?_
  refine lv_iconst (v := 1) hx hb d_Machine_runningWord_13 (by decide) ?_
  obtain ⟨r_6, h_5, hm⟩ := ob0_some hm
  have hFc := x_free0 hS hA
  refine xg_calli (va_runV (As := [.int 1]) (rest := []) ⟨hx, hb, hml, hown, hts⟩ (x_Waiting_input l dC dI cI adK adV adA u o g H.size n h_5) (cwV 1 hts (tw_GV tw_cons cw_Waiting_input lk_Machine_347 in_Waiting_input sel_Waiting_input ini_Waiting) rfl rfl rfl ⟨rfl, hd_Waiting_input⟩ ⟨Nat.le_of_ble_eq_true rfl, Nat.le_of_ble_eq_true rfl⟩) (xpVr hK hP hS hE hFc xo_9 rfl) rfl rfl hl.1 rfl (lv_room (Nat.le_of_ble_eq_true rfl)) d_Machine_runningWord_14 ⟨show kc_3 + 0 ≤ mc by omega, show ks_4 + 0 ≤ ms by omega⟩) hS (fun q _ h => hFc q h) hFc (fun kc_7 ks_8 r9 u9 t9 H locs ekc eks ht hvm e9 hB hz1 hk1 hS => ?_)
  replace hkc : kc_7 + k2.1 = mc := by omega
  replace hks : ks_8 + k2.2 = ms := by omega
  clear ekc eks
  have e9 : r_6 = r9 := e9
  subst e9
  replace hP := x_keep hP hk1
  clear hFc hk1 hz1 hvm hB ht
  refine lv_istore_n (lv' := [(3, .int r_6), (2, .int r_2), (0, .ref ((u 11))), (1, .int v1)]) hx hb d_Machine_runningWord_17 rfl hl (by decide) rfl (fun ls hl => ?_)
  refine lv_iload_n hx hb d_Machine_runningWord_18 rfl (lv_at hl 3 rfl) ?_
  rcases Classical.em (v1 = 60) with c_9 | c_9
  · replace hm := if_t c_9 hm
    refine lv_tableIn (x := v1) (tgt := 92) hx hb d_Machine_runningWord_19 (by rw [c_9]; decide) (by rw [c_9]; decide) (by rw [c_9]; rfl) (by decide) ?_
    refine lv_aload_n hx hb d_Machine_runningWord_92 rfl (lv_at hl 2 rfl) ?_
    refine lv_bipush (v := 6) hx hb d_Machine_runningWord_93 (by decide) ?_
    refine lv_iload_n hx hb d_Machine_runningWord_95 rfl (lv_at hl 1 rfl) ?_
    refine lv_ldc (v := (-2147483648)) hx hb hown (htt _ lk_Machine_114) d_Machine_runningWord_96 ?_
    refine lv_ldc (v := (-2147483648)) hx hb hown (htt _ lk_Machine_114) d_Machine_runningWord_98 ?_
    obtain ⟨i_11, a_12, r_13, h_10, hm⟩ := ob_some hm
    have hFc := x_free hD hS hA
    refine xg_calli (va_runV (As := [.int 6, .int r_2, .int ((-2147483648)), .int ((-2147483648))]) (rest := []) ⟨hx, hb, hml, hown, hts⟩ (x_Machine_open l dC dI cI adK adV adA u o g H.size n h_10) (cwV 4 hts (tw_GV tw_cons cw_Machine_open lk_Machine_353 in_Machine_open sel_Machine_open ini_Machine) rfl rfl rfl ⟨rfl, hd_Machine_open⟩ ⟨Nat.le_of_ble_eq_true rfl, Nat.le_of_ble_eq_true rfl⟩) (xpV hK hP hD hS hE hFc xo_11 rfl) rfl rfl hl.1 rfl (lv_room (Nat.le_of_ble_eq_true rfl)) d_Machine_runningWord_100 ⟨show kc_7 + 0 ≤ mc by omega, show ks_8 + 0 ≤ ms by omega⟩) hS (fun q _ h => hFc q h) hFc (fun kc_14 ks_15 r9 u9 t9 H locs ekc eks ht hvm e9 hB hz1 hk1 hS => ?_)
    replace hkc : kc_14 + k2.1 = mc := by omega
    replace hks : ks_15 + k2.2 = ms := by omega
    clear ekc eks
    have e9 : r_13 = r9 := e9
    subst e9
    obtain ⟨hP, hD⟩ := x_aft hB ht hFc
    clear hFc hk1 hz1 hvm hB ht
    obtain ⟨e1, e2, e4, e5, e6, e3⟩ := re5 hm
    obtain ⟨hP, hD⟩ := x_eqg e1 e2 e4 hP hD
    refine W.widen (k := mc) (n := ms) (show kc_14 ≤ mc by omega) (show ks_15 ≤ ms by omega) ?_
    exact W.iret hx hb hr (fun t9 ht hW => ⟨⟨_, o, rfl, e3.symm, by rw [ht]; exact hP, hD⟩, hS.F ht⟩) hS.2.2 d_Machine_runningWord_103
  replace hm := if_f c_9 hm
  rcases Classical.em (v1 = 61) with c_16 | c_16
  · replace hm := if_t c_16 hm
    refine lv_tableIn (x := v1) (tgt := 104) hx hb d_Machine_runningWord_19 (by rw [c_16]; decide) (by rw [c_16]; decide) (by rw [c_16]; rfl) (by decide) ?_
    refine lv_aload_n hx hb d_Machine_runningWord_104 rfl (lv_at hl 2 rfl) ?_
    refine va_get (D := (dC, dI)) (ci := 11) (v := .ref ((u 10))) (C := R_Machine) (T := F_Machine) (N := 9) hx hb htt iw_Machine hown hK hP 11 xo_11 rfl 6 (Nat.le_of_ble_eq_true rfl) (htt _ lk_Machine_38) (fun _ h9 => h9) xg_11_6 d_Machine_runningWord_105 ?_
    refine lv_iconst (v := 0) hx hb d_Machine_runningWord_108 (by decide) ?_
    obtain ⟨r_18, h_17, hm⟩ := ob0_some hm
    have hFc := x_free0 hS hA
    refine xg_calli (va_runV (As := [.int 0]) (rest := []) ⟨hx, hb, hml, hown, hts⟩ (x_Deeds_isTrue l dC dI cI adK adV adA u o g H.size n h_17) (cwV 1 hts (tw_GV tw_cons cw_Deeds_isTrue lk_Machine_356 in_Deeds_isTrue sel_Deeds_isTrue ini_Deeds) rfl rfl rfl ⟨rfl, hd_Deeds_isTrue⟩ ⟨Nat.le_of_ble_eq_true rfl, Nat.le_of_ble_eq_true rfl⟩) (xpVr hK hP hS hE hFc xo_10 rfl) rfl rfl hl.1 rfl (lv_room (Nat.le_of_ble_eq_true rfl)) d_Machine_runningWord_109 ⟨show kc_7 + 0 ≤ mc by omega, show ks_8 + 0 ≤ ms by omega⟩) hS (fun q _ h => hFc q h) hFc (fun kc_19 ks_20 r9 u9 t9 H locs ekc eks ht hvm e9 hB hz1 hk1 hS => ?_)
    replace hkc : kc_19 + k2.1 = mc := by omega
    replace hks : ks_20 + k2.2 = ms := by omega
    clear ekc eks
    have e9 : r_18 = r9 := e9
    subst e9
    replace hP := x_keep hP hk1
    clear hFc hk1 hz1 hvm hB ht
    refine lv_if_eq (tgt := 128) hx hb d_Machine_runningWord_112 (by decide) (fun c_21 => ?_) (fun c_21 => ?_)
    · replace hm := if_t c_21 hm
      refine lv_ldc (v := (-2147483648)) hx hb hown (htt _ lk_Machine_114) d_Machine_runningWord_128 ?_
      obtain ⟨e1, e2, e4, e5, e6, e3⟩ := re5 hm
      obtain ⟨hP, hD⟩ := x_eqg e1 e2 e4 hP hD
      refine W.widen (k := mc) (n := ms) (show kc_19 ≤ mc by omega) (show ks_20 ≤ ms by omega) ?_
      exact W.iret hx hb hr (fun t9 ht hW => ⟨⟨_, o, rfl, e3.symm, by rw [ht]; exact hP, hD⟩, hS.F ht⟩) hS.2.2 d_Machine_runningWord_130
    · replace hm := if_f c_21 hm
      refine lv_aload_n hx hb d_Machine_runningWord_115 rfl (lv_at hl 2 rfl) ?_
      refine lv_iconst (v := 2) hx hb d_Machine_runningWord_116 (by decide) ?_
      refine lv_iload_n hx hb d_Machine_runningWord_117 rfl (lv_at hl 0 rfl) ?_
      refine lv_ldc (v := (-2147483648)) hx hb hown (htt _ lk_Machine_114) d_Machine_runningWord_118 ?_
      refine lv_ldc (v := (-2147483648)) hx hb hown (htt _ lk_Machine_114) d_Machine_runningWord_120 ?_
      obtain ⟨i_23, a_24, r_25, h_22, hm⟩ := ob_some hm
      have hFc := x_free hD hS hA
      refine xg_calli (va_runV (As := [.int 2, .int r_6, .int ((-2147483648)), .int ((-2147483648))]) (rest := []) ⟨hx, hb, hml, hown, hts⟩ (x_Machine_open l dC dI cI adK adV adA u o g H.size n h_22) (cwV 4 hts (tw_GV tw_cons cw_Machine_open lk_Machine_353 in_Machine_open sel_Machine_open ini_Machine) rfl rfl rfl ⟨rfl, hd_Machine_open⟩ ⟨Nat.le_of_ble_eq_true rfl, Nat.le_of_ble_eq_true rfl⟩) (xpV hK hP hD hS hE hFc xo_11 rfl) rfl rfl hl.1 rfl (lv_room (Nat.le_of_ble_eq_true rfl)) d_Machine_runningWord_122 ⟨show kc_19 + 0 ≤ mc by omega, show ks_20 + 0 ≤ ms by omega⟩) hS (fun q _ h => hFc q h) hFc (fun kc_26 ks_27 r9 u9 t9 H locs ekc eks ht hvm e9 hB hz1 hk1 hS => ?_)
      replace hkc : kc_26 + k2.1 = mc := by omega
      replace hks : ks_27 + k2.2 = ms := by omega
      clear ekc eks
      have e9 : r_25 = r9 := e9
      subst e9
      obtain ⟨hP, hD⟩ := x_aft hB ht hFc
      clear hFc hk1 hz1 hvm hB ht
      refine lv_goto (tgt := 130) hx hb d_Machine_runningWord_125 (by decide) ?_
      obtain ⟨e1, e2, e4, e5, e6, e3⟩ := re5 hm
      obtain ⟨hP, hD⟩ := x_eqg e1 e2 e4 hP hD
      refine W.widen (k := mc) (n := ms) (show kc_26 ≤ mc by omega) (show ks_27 ≤ ms by omega) ?_
      exact W.iret hx hb hr (fun t9 ht hW => ⟨⟨_, o, rfl, e3.symm, by rw [ht]; exact hP, hD⟩, hS.F ht⟩) hS.2.2 d_Machine_runningWord_130
  replace hm := if_f c_16 hm
  rcases Classical.em (v1 = 62) with c_28 | c_28
  · replace hm := if_t c_28 hm
    refine lv_tableIn (x := v1) (tgt := 131) hx hb d_Machine_runningWord_19 (by rw [c_28]; decide) (by rw [c_28]; decide) (by rw [c_28]; rfl) (by decide) ?_
    refine lv_aload_n hx hb d_Machine_runningWord_131 rfl (lv_at hl 2 rfl) ?_
    refine lv_bipush (v := 6) hx hb d_Machine_runningWord_132 (by decide) ?_
    refine lv_aload_n hx hb d_Machine_runningWord_134 rfl (lv_at hl 2 rfl) ?_
    refine va_get (D := (dC, dI)) (ci := 11) (v := .ref ((u 10))) (C := R_Machine) (T := F_Machine) (N := 9) hx hb htt iw_Machine hown hK hP 11 xo_11 rfl 6 (Nat.le_of_ble_eq_true rfl) (htt _ lk_Machine_38) (fun _ h9 => h9) xg_11_6 d_Machine_runningWord_135 ?_
    refine lv_iconst (v := 0) hx hb d_Machine_runningWord_138 (by decide) ?_
    obtain ⟨r_30, h_29, hm⟩ := ob0_some hm
    have hFc := x_free0 hS hA
    refine xg_calli (va_runV (As := [.int 0]) (rest := [.int 6, .ref ((u 11))]) ⟨hx, hb, hml, hown, hts⟩ (x_Deeds_isTrue l dC dI cI adK adV adA u o g H.size n h_29) (cwV 1 hts (tw_GV tw_cons cw_Deeds_isTrue lk_Machine_356 in_Deeds_isTrue sel_Deeds_isTrue ini_Deeds) rfl rfl rfl ⟨rfl, hd_Deeds_isTrue⟩ ⟨Nat.le_of_ble_eq_true rfl, Nat.le_of_ble_eq_true rfl⟩) (xpVr hK hP hS hE hFc xo_10 rfl) rfl rfl hl.1 rfl (lv_room (Nat.le_of_ble_eq_true rfl)) d_Machine_runningWord_139 ⟨show kc_7 + 0 ≤ mc by omega, show ks_8 + 0 ≤ ms by omega⟩) hS (fun q _ h => hFc q h) hFc (fun kc_31 ks_32 r9 u9 t9 H locs ekc eks ht hvm e9 hB hz1 hk1 hS => ?_)
    replace hkc : kc_31 + k2.1 = mc := by omega
    replace hks : ks_32 + k2.2 = ms := by omega
    clear ekc eks
    have e9 : r_30 = r9 := e9
    subst e9
    replace hP := x_keep hP hk1
    clear hFc hk1 hz1 hvm hB ht
    refine lv_if_eq (tgt := 149) hx hb d_Machine_runningWord_142 (by decide) (fun c_33 => ?_) (fun c_33 => ?_)
    · replace hm := if_t c_33 hm
      refine lv_aload_n hx hb d_Machine_runningWord_149 rfl (lv_at hl 2 rfl) ?_
      refine va_get (D := (dC, dI)) (ci := 11) (v := .ref ((u 9))) (C := R_Machine) (T := F_Machine) (N := 9) hx hb htt iw_Machine hown hK hP 11 xo_11 rfl 2 (Nat.le_of_ble_eq_true rfl) (htt _ lk_Machine_22) (fun _ h9 => h9) xg_11_2 d_Machine_runningWord_150 ?_
      refine lv_iconst (v := 2) hx hb d_Machine_runningWord_153 (by decide) ?_
      obtain ⟨r_35, h_34, hm⟩ := ob0_some hm
      have hFc := x_free0 hS hA
      refine xg_calli (va_runV (As := [.int 2]) (rest := [.int 6, .ref ((u 11))]) ⟨hx, hb, hml, hown, hts⟩ (x_Waiting_input l dC dI cI adK adV adA u o g H.size n h_34) (cwV 1 hts (tw_GV tw_cons cw_Waiting_input lk_Machine_347 in_Waiting_input sel_Waiting_input ini_Waiting) rfl rfl rfl ⟨rfl, hd_Waiting_input⟩ ⟨Nat.le_of_ble_eq_true rfl, Nat.le_of_ble_eq_true rfl⟩) (xpVr hK hP hS hE hFc xo_9 rfl) rfl rfl hl.1 rfl (lv_room (Nat.le_of_ble_eq_true rfl)) d_Machine_runningWord_154 ⟨show kc_31 + 0 ≤ mc by omega, show ks_32 + 0 ≤ ms by omega⟩) hS (fun q _ h => hFc q h) hFc (fun kc_36 ks_37 r9 u9 t9 H locs ekc eks ht hvm e9 hB hz1 hk1 hS => ?_)
      replace hkc : kc_36 + k2.1 = mc := by omega
      replace hks : ks_37 + k2.2 = ms := by omega
      clear ekc eks
      have e9 : r_35 = r9 := e9
      subst e9
      replace hP := x_keep hP hk1
      clear hFc hk1 hz1 hvm hB ht
      refine lv_ldc (v := (-2147483648)) hx hb hown (htt _ lk_Machine_114) d_Machine_runningWord_157 ?_
      refine lv_ldc (v := (-2147483648)) hx hb hown (htt _ lk_Machine_114) d_Machine_runningWord_159 ?_
      obtain ⟨i_39, a_40, r_41, h_38, hm⟩ := ob_some hm
      have hFc := x_free hD hS hA
      refine xg_calli (va_runV (As := [.int 6, .int r_35, .int ((-2147483648)), .int ((-2147483648))]) (rest := []) ⟨hx, hb, hml, hown, hts⟩ (x_Machine_open l dC dI cI adK adV adA u o g H.size n h_38) (cwV 4 hts (tw_GV tw_cons cw_Machine_open lk_Machine_353 in_Machine_open sel_Machine_open ini_Machine) rfl rfl rfl ⟨rfl, hd_Machine_open⟩ ⟨Nat.le_of_ble_eq_true rfl, Nat.le_of_ble_eq_true rfl⟩) (xpV hK hP hD hS hE hFc xo_11 rfl) rfl rfl hl.1 rfl (lv_room (Nat.le_of_ble_eq_true rfl)) d_Machine_runningWord_161 ⟨show kc_36 + 0 ≤ mc by omega, show ks_37 + 0 ≤ ms by omega⟩) hS (fun q _ h => hFc q h) hFc (fun kc_42 ks_43 r9 u9 t9 H locs ekc eks ht hvm e9 hB hz1 hk1 hS => ?_)
      replace hkc : kc_42 + k2.1 = mc := by omega
      replace hks : ks_43 + k2.2 = ms := by omega
      clear ekc eks
      have e9 : r_41 = r9 := e9
      subst e9
      obtain ⟨hP, hD⟩ := x_aft hB ht hFc
      clear hFc hk1 hz1 hvm hB ht
      obtain ⟨e1, e2, e4, e5, e6, e3⟩ := re5 hm
      obtain ⟨hP, hD⟩ := x_eqg e1 e2 e4 hP hD
      refine W.widen (k := mc) (n := ms) (show kc_42 ≤ mc by omega) (show ks_43 ≤ ms by omega) ?_
      exact W.iret hx hb hr (fun t9 ht hW => ⟨⟨_, o, rfl, e3.symm, by rw [ht]; exact hP, hD⟩, hS.F ht⟩) hS.2.2 d_Machine_runningWord_164
    · replace hm := if_f c_33 hm
      refine lv_iload_n hx hb d_Machine_runningWord_145 rfl (lv_at hl 0 rfl) ?_
      refine lv_goto (tgt := 157) hx hb d_Machine_runningWord_146 (by decide) ?_
      refine lv_ldc (v := (-2147483648)) hx hb hown (htt _ lk_Machine_114) d_Machine_runningWord_157 ?_
      refine lv_ldc (v := (-2147483648)) hx hb hown (htt _ lk_Machine_114) d_Machine_runningWord_159 ?_
      obtain ⟨i_45, a_46, r_47, h_44, hm⟩ := ob_some hm
      have hFc := x_free hD hS hA
      refine xg_calli (va_runV (As := [.int 6, .int r_6, .int ((-2147483648)), .int ((-2147483648))]) (rest := []) ⟨hx, hb, hml, hown, hts⟩ (x_Machine_open l dC dI cI adK adV adA u o g H.size n h_44) (cwV 4 hts (tw_GV tw_cons cw_Machine_open lk_Machine_353 in_Machine_open sel_Machine_open ini_Machine) rfl rfl rfl ⟨rfl, hd_Machine_open⟩ ⟨Nat.le_of_ble_eq_true rfl, Nat.le_of_ble_eq_true rfl⟩) (xpV hK hP hD hS hE hFc xo_11 rfl) rfl rfl hl.1 rfl (lv_room (Nat.le_of_ble_eq_true rfl)) d_Machine_runningWord_161 ⟨show kc_31 + 0 ≤ mc by omega, show ks_32 + 0 ≤ ms by omega⟩) hS (fun q _ h => hFc q h) hFc (fun kc_48 ks_49 r9 u9 t9 H locs ekc eks ht hvm e9 hB hz1 hk1 hS => ?_)
      replace hkc : kc_48 + k2.1 = mc := by omega
      replace hks : ks_49 + k2.2 = ms := by omega
      clear ekc eks
      have e9 : r_47 = r9 := e9
      subst e9
      obtain ⟨hP, hD⟩ := x_aft hB ht hFc
      clear hFc hk1 hz1 hvm hB ht
      obtain ⟨e1, e2, e4, e5, e6, e3⟩ := re5 hm
      obtain ⟨hP, hD⟩ := x_eqg e1 e2 e4 hP hD
      refine W.widen (k := mc) (n := ms) (show kc_48 ≤ mc by omega) (show ks_49 ≤ ms by omega) ?_
      exact W.iret hx hb hr (fun t9 ht hW => ⟨⟨_, o, rfl, e3.symm, by rw [ht]; exact hP, hD⟩, hS.F ht⟩) hS.2.2 d_Machine_runningWord_164
  replace hm := if_f c_28 hm
  rcases Classical.em (v1 = 63) with c_50 | c_50
  · replace hm := if_t c_50 hm
    refine lv_tableIn (x := v1) (tgt := 165) hx hb d_Machine_runningWord_19 (by rw [c_50]; decide) (by rw [c_50]; decide) (by rw [c_50]; rfl) (by decide) ?_
    refine lv_aload_n hx hb d_Machine_runningWord_165 rfl (lv_at hl 2 rfl) ?_
    refine lv_iload_n hx hb d_Machine_runningWord_166 rfl (lv_at hl 1 rfl) ?_
    refine lv_iconst (v := 1) hx hb d_Machine_runningWord_167 (by decide) ?_
    refine lv_ishr hx hb d_Machine_runningWord_168 ?_
    refine lv_iload_n hx hb d_Machine_runningWord_169 rfl (lv_at hl 0 rfl) ?_
    obtain ⟨i_52, a_53, r_54, h_51, hm⟩ := ob_some hm
    have hFc := x_free hD hS hA
    refine xg_calli (va_runV (As := [.int (r_2 >>> ((1 : Int32) &&& 31)), .int r_6]) (rest := []) ⟨hx, hb, hml, hown, hts⟩ (x_Machine_repeat l dC dI cI adK adV adA u o g H.size n h_51) (cwV 2 hts (tw_GV tw_cons cw_Machine_repeat lk_Machine_359 in_Machine_repeat sel_Machine_repeat ini_Machine) rfl rfl rfl ⟨rfl, hd_Machine_repeat⟩ ⟨Nat.le_of_ble_eq_true rfl, Nat.le_of_ble_eq_true rfl⟩) (xpV hK hP hD hS hE hFc xo_11 rfl) rfl rfl hl.1 rfl (lv_room (Nat.le_of_ble_eq_true rfl)) d_Machine_runningWord_170 ⟨show kc_7 + 0 ≤ mc by omega, show ks_8 + 0 ≤ ms by omega⟩) hS (fun q _ h => hFc q h) hFc (fun kc_55 ks_56 r9 u9 t9 H locs ekc eks ht hvm e9 hB hz1 hk1 hS => ?_)
    replace hkc : kc_55 + k2.1 = mc := by omega
    replace hks : ks_56 + k2.2 = ms := by omega
    clear ekc eks
    have e9 : r_54 = r9 := e9
    subst e9
    obtain ⟨hP, hD⟩ := x_aft hB ht hFc
    clear hFc hk1 hz1 hvm hB ht
    obtain ⟨e1, e2, e4, e5, e6, e3⟩ := re5 hm
    obtain ⟨hP, hD⟩ := x_eqg e1 e2 e4 hP hD
    refine W.widen (k := mc) (n := ms) (show kc_55 ≤ mc by omega) (show ks_56 ≤ ms by omega) ?_
    exact W.iret hx hb hr (fun t9 ht hW => ⟨⟨_, o, rfl, e3.symm, by rw [ht]; exact hP, hD⟩, hS.F ht⟩) hS.2.2 d_Machine_runningWord_173
  replace hm := if_f c_50 hm
  rcases Classical.em (v1 = 64) with c_57 | c_57
  · replace hm := if_t c_57 hm
    refine lv_tableIn (x := v1) (tgt := 174) hx hb d_Machine_runningWord_19 (by rw [c_57]; decide) (by rw [c_57]; decide) (by rw [c_57]; rfl) (by decide) ?_
    refine lv_aload_n hx hb d_Machine_runningWord_174 rfl (lv_at hl 2 rfl) ?_
    obtain ⟨r_59, h_58, hm⟩ := ob0_some hm
    have hFc := x_free0 hS hA
    refine xg_calli (va_runV (As := []) (rest := []) ⟨hx, hb, hml, hown, hts⟩ (x_Machine_repcount l dC dI cI adK adV adA u o g H.size n h_58) (cwV 0 hts (tw_GV tw_cons cw_Machine_repcount lk_Machine_362 in_Machine_repcount sel_Machine_repcount ini_Machine) rfl rfl rfl ⟨rfl, hd_Machine_repcount⟩ ⟨Nat.le_of_ble_eq_true rfl, Nat.le_of_ble_eq_true rfl⟩) (xpVr hK hP hS hE hFc xo_11 rfl) rfl rfl hl.1 rfl (lv_room (Nat.le_of_ble_eq_true rfl)) d_Machine_runningWord_175 ⟨show kc_7 + 0 ≤ mc by omega, show ks_8 + 0 ≤ ms by omega⟩) hS (fun q _ h => hFc q h) hFc (fun kc_60 ks_61 r9 u9 t9 H locs ekc eks ht hvm e9 hB hz1 hk1 hS => ?_)
    replace hkc : kc_60 + k2.1 = mc := by omega
    replace hks : ks_61 + k2.2 = ms := by omega
    clear ekc eks
    have e9 : r_59 = r9 := e9
    subst e9
    replace hP := x_keep hP hk1
    clear hFc hk1 hz1 hvm hB ht
    obtain ⟨e1, e2, e4, e5, e6, e3⟩ := re5 hm
    obtain ⟨hP, hD⟩ := x_eqg e1 e2 e4 hP hD
    refine W.widen (k := mc) (n := ms) (show kc_60 ≤ mc by omega) (show ks_61 ≤ ms by omega) ?_
    exact W.iret hx hb hr (fun t9 ht hW => ⟨⟨_, o, rfl, e3.symm, by rw [ht]; exact hP, hD⟩, hS.F ht⟩) hS.2.2 d_Machine_runningWord_178
  replace hm := if_f c_57 hm
  rcases Classical.em (v1 = 65) with c_62 | c_62
  · replace hm := if_t c_62 hm
    refine lv_tableIn (x := v1) (tgt := 179) hx hb d_Machine_runningWord_19 (by rw [c_62]; decide) (by rw [c_62]; decide) (by rw [c_62]; rfl) (by decide) ?_
    refine lv_aload_n hx hb d_Machine_runningWord_179 rfl (lv_at hl 2 rfl) ?_
    refine lv_bipush (v := 9) hx hb d_Machine_runningWord_180 (by decide) ?_
    refine lv_iload_n hx hb d_Machine_runningWord_182 rfl (lv_at hl 1 rfl) ?_
    refine lv_ldc (v := (-2147483648)) hx hb hown (htt _ lk_Machine_114) d_Machine_runningWord_183 ?_
    refine lv_iload_n hx hb d_Machine_runningWord_185 rfl (lv_at hl 0 rfl) ?_
    obtain ⟨i_64, a_65, r_66, h_63, hm⟩ := ob_some hm
    have hFc := x_free hD hS hA
    refine xg_calli (va_runV (As := [.int 9, .int r_2, .int ((-2147483648)), .int r_6]) (rest := []) ⟨hx, hb, hml, hown, hts⟩ (x_Machine_open l dC dI cI adK adV adA u o g H.size n h_63) (cwV 4 hts (tw_GV tw_cons cw_Machine_open lk_Machine_353 in_Machine_open sel_Machine_open ini_Machine) rfl rfl rfl ⟨rfl, hd_Machine_open⟩ ⟨Nat.le_of_ble_eq_true rfl, Nat.le_of_ble_eq_true rfl⟩) (xpV hK hP hD hS hE hFc xo_11 rfl) rfl rfl hl.1 rfl (lv_room (Nat.le_of_ble_eq_true rfl)) d_Machine_runningWord_186 ⟨show kc_7 + 0 ≤ mc by omega, show ks_8 + 0 ≤ ms by omega⟩) hS (fun q _ h => hFc q h) hFc (fun kc_67 ks_68 r9 u9 t9 H locs ekc eks ht hvm e9 hB hz1 hk1 hS => ?_)
    replace hkc : kc_67 + k2.1 = mc := by omega
    replace hks : ks_68 + k2.2 = ms := by omega
    clear ekc eks
    have e9 : r_66 = r9 := e9
    subst e9
    obtain ⟨hP, hD⟩ := x_aft hB ht hFc
    clear hFc hk1 hz1 hvm hB ht
    obtain ⟨e1, e2, e4, e5, e6, e3⟩ := re5 hm
    obtain ⟨hP, hD⟩ := x_eqg e1 e2 e4 hP hD
    refine W.widen (k := mc) (n := ms) (show kc_67 ≤ mc by omega) (show ks_68 ≤ ms by omega) ?_
    exact W.iret hx hb hr (fun t9 ht hW => ⟨⟨_, o, rfl, e3.symm, by rw [ht]; exact hP, hD⟩, hS.F ht⟩) hS.2.2 d_Machine_runningWord_189
  replace hm := if_f c_62 hm
  rcases Classical.em (v1 = 66) with c_69 | c_69
  · replace hm := if_t c_69 hm
    refine lv_tableIn (x := v1) (tgt := 190) hx hb d_Machine_runningWord_19 (by rw [c_69]; decide) (by rw [c_69]; decide) (by rw [c_69]; rfl) (by decide) ?_
    refine lv_aload_n hx hb d_Machine_runningWord_190 rfl (lv_at hl 2 rfl) ?_
    refine va_get (D := (dC, dI)) (ci := 11) (v := .ref ((u 1))) (C := R_Machine) (T := F_Machine) (N := 9) hx hb htt iw_Machine hown hK hP 11 xo_11 rfl 0 (Nat.le_of_ble_eq_true rfl) (htt _ lk_Machine_15) (fun _ h9 => h9) xg_11_0 d_Machine_runningWord_191 ?_
    refine lv_iload_n hx hb d_Machine_runningWord_194 rfl (lv_at hl 1 rfl) ?_
    obtain ⟨r_71, h_70, hm⟩ := ob0_some hm
    have hFc := x_free0 hS hA
    refine xg_calli (va_runV (As := [.int r_2]) (rest := []) ⟨hx, hb, hml, hown, hts⟩ (x_Heap_count l dC dI cI adK adV adA u o g H.size n h_70) (cwV 1 hts (tw_GV tw_cons cw_Heap_count lk_Machine_221 in_Heap_count sel_Heap_count ini_Heap) rfl rfl rfl ⟨rfl, hd_Heap_count⟩ ⟨Nat.le_of_ble_eq_true rfl, Nat.le_of_ble_eq_true rfl⟩) (xpVr hK hP hS hE hFc xo_1 rfl) rfl rfl hl.1 rfl (lv_room (Nat.le_of_ble_eq_true rfl)) d_Machine_runningWord_195 ⟨show kc_7 + 0 ≤ mc by omega, show ks_8 + 0 ≤ ms by omega⟩) hS (fun q _ h => hFc q h) hFc (fun kc_72 ks_73 r9 u9 t9 H locs ekc eks ht hvm e9 hB hz1 hk1 hS => ?_)
    replace hkc : kc_72 + k2.1 = mc := by omega
    replace hks : ks_73 + k2.2 = ms := by omega
    clear ekc eks
    have e9 : r_71 = r9 := e9
    subst e9
    replace hP := x_keep hP hk1
    clear hFc hk1 hz1 hvm hB ht
    refine lv_if_ne (tgt := 206) hx hb d_Machine_runningWord_198 (by decide) (fun c_74 => ?_) (fun c_74 => ?_)
    · replace hm := if_f c_74 hm
      refine lv_aload_n hx hb d_Machine_runningWord_206 rfl (lv_at hl 2 rfl) ?_
      refine lv_iconst (v := 5) hx hb d_Machine_runningWord_207 (by decide) ?_
      refine lv_iload_n hx hb d_Machine_runningWord_208 rfl (lv_at hl 0 rfl) ?_
      refine lv_ldc (v := (-2147483648)) hx hb hown (htt _ lk_Machine_114) d_Machine_runningWord_209 ?_
      refine lv_iload_n hx hb d_Machine_runningWord_211 rfl (lv_at hl 1 rfl) ?_
      obtain ⟨i_76, a_77, r_78, h_75, hm⟩ := ob_some hm
      have hFc := x_free hD hS hA
      refine xg_calli (va_runV (As := [.int 5, .int r_6, .int ((-2147483648)), .int r_2]) (rest := []) ⟨hx, hb, hml, hown, hts⟩ (x_Machine_open l dC dI cI adK adV adA u o g H.size n h_75) (cwV 4 hts (tw_GV tw_cons cw_Machine_open lk_Machine_353 in_Machine_open sel_Machine_open ini_Machine) rfl rfl rfl ⟨rfl, hd_Machine_open⟩ ⟨Nat.le_of_ble_eq_true rfl, Nat.le_of_ble_eq_true rfl⟩) (xpV hK hP hD hS hE hFc xo_11 rfl) rfl rfl hl.1 rfl (lv_room (Nat.le_of_ble_eq_true rfl)) d_Machine_runningWord_212 ⟨show kc_72 + 0 ≤ mc by omega, show ks_73 + 0 ≤ ms by omega⟩) hS (fun q _ h => hFc q h) hFc (fun kc_79 ks_80 r9 u9 t9 H locs ekc eks ht hvm e9 hB hz1 hk1 hS => ?_)
      replace hkc : kc_79 + k2.1 = mc := by omega
      replace hks : ks_80 + k2.2 = ms := by omega
      clear ekc eks
      have e9 : r_78 = r9 := e9
      subst e9
      obtain ⟨hP, hD⟩ := x_aft hB ht hFc
      clear hFc hk1 hz1 hvm hB ht
      obtain ⟨e1, e2, e4, e5, e6, e3⟩ := re5 hm
      obtain ⟨hP, hD⟩ := x_eqg e1 e2 e4 hP hD
      refine W.widen (k := mc) (n := ms) (show kc_79 ≤ mc by omega) (show ks_80 ≤ ms by omega) ?_
      exact W.iret hx hb hr (fun t9 ht hW => ⟨⟨_, o, rfl, e3.symm, by rw [ht]; exact hP, hD⟩, hS.F ht⟩) hS.2.2 d_Machine_runningWord_215
    · replace hm := if_t c_74 hm
      refine lv_ldc (v := (-2147483648)) hx hb hown (htt _ lk_Machine_114) d_Machine_runningWord_201 ?_
      refine lv_goto (tgt := 215) hx hb d_Machine_runningWord_203 (by decide) ?_
      obtain ⟨e1, e2, e4, e5, e6, e3⟩ := re5 hm
      obtain ⟨hP, hD⟩ := x_eqg e1 e2 e4 hP hD
      refine W.widen (k := mc) (n := ms) (show kc_72 ≤ mc by omega) (show ks_73 ≤ ms by omega) ?_
      exact W.iret hx hb hr (fun t9 ht hW => ⟨⟨_, o, rfl, e3.symm, by rw [ht]; exact hP, hD⟩, hS.F ht⟩) hS.2.2 d_Machine_runningWord_215
  replace hm := if_f c_69 hm
  rcases Classical.em (v1 = 67) with c_81 | c_81
  · replace hm := if_t c_81 hm
    refine lv_tableIn (x := v1) (tgt := 216) hx hb d_Machine_runningWord_19 (by rw [c_81]; decide) (by rw [c_81]; decide) (by rw [c_81]; rfl) (by decide) ?_
    refine lv_aload_n hx hb d_Machine_runningWord_216 rfl (lv_at hl 2 rfl) ?_
    obtain ⟨r_83, h_82, hm⟩ := ob0_some hm
    have hFc := x_free0 hS hA
    refine xg_calli (va_runV (As := []) (rest := []) ⟨hx, hb, hml, hown, hts⟩ (x_Machine_current l dC dI cI adK adV adA u o g H.size n h_82) (cwV 0 hts (tw_GV tw_cons cw_Machine_current lk_Machine_365 in_Machine_current sel_Machine_current ini_Machine) rfl rfl rfl ⟨rfl, hd_Machine_current⟩ ⟨Nat.le_of_ble_eq_true rfl, Nat.le_of_ble_eq_true rfl⟩) (xpVr hK hP hS hE hFc xo_11 rfl) rfl rfl hl.1 rfl (lv_room (Nat.le_of_ble_eq_true rfl)) d_Machine_runningWord_217 ⟨show kc_7 + 0 ≤ mc by omega, show ks_8 + 0 ≤ ms by omega⟩) hS (fun q _ h => hFc q h) hFc (fun kc_84 ks_85 r9 u9 t9 H locs ekc eks ht hvm e9 hB hz1 hk1 hS => ?_)
    replace hkc : kc_84 + k2.1 = mc := by omega
    replace hks : ks_85 + k2.2 = ms := by omega
    clear ekc eks
    have e9 : r_83 = r9 := e9
    subst e9
    replace hP := x_keep hP hk1
    clear hFc hk1 hz1 hvm hB ht
    obtain ⟨e1, e2, e4, e5, e6, e3⟩ := re5 hm
    obtain ⟨hP, hD⟩ := x_eqg e1 e2 e4 hP hD
    refine W.widen (k := mc) (n := ms) (show kc_84 ≤ mc by omega) (show ks_85 ≤ ms by omega) ?_
    exact W.iret hx hb hr (fun t9 ht hW => ⟨⟨_, o, rfl, e3.symm, by rw [ht]; exact hP, hD⟩, hS.F ht⟩) hS.2.2 d_Machine_runningWord_220
  replace hm := if_f c_81 hm
  rcases Classical.em (v1 = 68) with c_86 | c_86
  · replace hm := if_t c_86 hm
    refine lv_tableIn (x := v1) (tgt := 221) hx hb d_Machine_runningWord_19 (by rw [c_86]; decide) (by rw [c_86]; decide) (by rw [c_86]; rfl) (by decide) ?_
    refine lv_aload_n hx hb d_Machine_runningWord_221 rfl (lv_at hl 2 rfl) ?_
    refine lv_iload_n hx hb d_Machine_runningWord_222 rfl (lv_at hl 1 rfl) ?_
    refine lv_iload_n hx hb d_Machine_runningWord_223 rfl (lv_at hl 0 rfl) ?_
    obtain ⟨i_88, a_89, g_90, k_91, r_92, k_93, h_87, hm, e7, e8⟩ := obG_some hm
    have hFc := x_free hD hS hA
    refine xg_calli (va_runV (As := [.int r_2, .int r_6]) (rest := []) ⟨hx, hb, hml, hown, hts⟩ (x_Machine_map l dC dI cI adK adV adA u o g H.size n h_87) (cwV 2 hts (tw_GV tw_cons cw_Machine_map lk_Machine_368 in_Machine_map sel_Machine_map ini_Machine) rfl rfl rfl ⟨rfl, hd_Machine_map⟩ ⟨Nat.le_of_ble_eq_true rfl, Nat.le_of_ble_eq_true rfl⟩) (xpV hK hP hD hS hE hFc xo_11 rfl) rfl rfl hl.1 rfl (lv_room (Nat.le_of_ble_eq_true rfl)) d_Machine_runningWord_224 ⟨show kc_7 + k_91.1 ≤ mc by omega, show ks_8 + k_91.2 ≤ ms by omega⟩) hS (fun q _ h => hFc q h) hFc (fun kc_95 ks_96 r9 o_94 t9 H locs ekc eks ht hvm e9 hB hz1 hk1 hS => ?_)
    replace hkc : kc_95 + k_93.1 = mc := by omega
    replace hks : ks_96 + k_93.2 = ms := by omega
    clear e7 e8
    clear ekc eks
    have e9 : r_92 = r9 := e9
    subst e9
    obtain ⟨hP, hD⟩ := x_aftg hB ht hFc
    clear hFc hk1 hz1 hvm hB ht
    obtain ⟨e1, e2, e4, e5, e6, e3⟩ := re5 hm
    obtain ⟨hP, hD⟩ := x_eqg e1 e2 e4 hP hD
    refine W.widen (k := mc) (n := ms) (show kc_95 ≤ mc by omega) (show ks_96 ≤ ms by omega) ?_
    exact W.iret hx hb hr (fun t9 ht hW => ⟨⟨_, o_94, rfl, e3.symm, by rw [ht]; exact hP, hD⟩, hS.F ht⟩) hS.2.2 d_Machine_runningWord_227
  replace hm := if_f c_86 hm
  rcases Classical.em (v1 = 69) with c_97 | c_97
  · replace hm := if_t c_97 hm
    refine lv_tableIn (x := v1) (tgt := 228) hx hb d_Machine_runningWord_19 (by rw [c_97]; decide) (by rw [c_97]; decide) (by rw [c_97]; rfl) (by decide) ?_
    refine lv_aload_n hx hb d_Machine_runningWord_228 rfl (lv_at hl 2 rfl) ?_
    refine lv_iload_n hx hb d_Machine_runningWord_229 rfl (lv_at hl 1 rfl) ?_
    refine lv_iconst (v := 1) hx hb d_Machine_runningWord_230 (by decide) ?_
    refine lv_ishr hx hb d_Machine_runningWord_231 ?_
    refine lv_iload_n hx hb d_Machine_runningWord_232 rfl (lv_at hl 0 rfl) ?_
    obtain ⟨i_99, a_100, r_101, h_98, hm⟩ := ob_some hm
    have hFc := x_free hD hS hA
    refine xg_calli (va_runV (As := [.int (r_2 >>> ((1 : Int32) &&& 31)), .int r_6]) (rest := []) ⟨hx, hb, hml, hown, hts⟩ (x_Machine_ask l dC dI cI adK adV adA u o g H.size n h_98) (cwV 2 hts (tw_GV tw_cons cw_Machine_ask lk_Machine_371 in_Machine_ask sel_Machine_ask ini_Machine) rfl rfl rfl ⟨rfl, hd_Machine_ask⟩ ⟨Nat.le_of_ble_eq_true rfl, Nat.le_of_ble_eq_true rfl⟩) (xpV hK hP hD hS hE hFc xo_11 rfl) rfl rfl hl.1 rfl (lv_room (Nat.le_of_ble_eq_true rfl)) d_Machine_runningWord_233 ⟨show kc_7 + 0 ≤ mc by omega, show ks_8 + 0 ≤ ms by omega⟩) hS (fun q _ h => hFc q h) hFc (fun kc_102 ks_103 r9 u9 t9 H locs ekc eks ht hvm e9 hB hz1 hk1 hS => ?_)
    replace hkc : kc_102 + k2.1 = mc := by omega
    replace hks : ks_103 + k2.2 = ms := by omega
    clear ekc eks
    have e9 : r_101 = r9 := e9
    subst e9
    obtain ⟨hP, hD⟩ := x_aft hB ht hFc
    clear hFc hk1 hz1 hvm hB ht
    obtain ⟨e1, e2, e4, e5, e6, e3⟩ := re5 hm
    obtain ⟨hP, hD⟩ := x_eqg e1 e2 e4 hP hD
    refine W.widen (k := mc) (n := ms) (show kc_102 ≤ mc by omega) (show ks_103 ≤ ms by omega) ?_
    exact W.iret hx hb hr (fun t9 ht hW => ⟨⟨_, o, rfl, e3.symm, by rw [ht]; exact hP, hD⟩, hS.F ht⟩) hS.2.2 d_Machine_runningWord_236
  replace hm := if_f c_97 hm
  rcases Classical.em (v1 = 70) with c_104 | c_104
  · replace hm := if_t c_104 hm
    refine lv_tableIn (x := v1) (tgt := 237) hx hb d_Machine_runningWord_19 (by rw [c_104]; decide) (by rw [c_104]; decide) (by rw [c_104]; rfl) (by decide) ?_
    refine lv_aload_n hx hb d_Machine_runningWord_237 rfl (lv_at hl 2 rfl) ?_
    obtain ⟨i_106, a_107, r_108, h_105, hm⟩ := ob_some hm
    have hFc := x_free hD hS hA
    refine xg_calli (va_runV (As := []) (rest := []) ⟨hx, hb, hml, hown, hts⟩ (x_Machine_stopCall l dC dI cI adK adV adA u o g H.size n h_105) (cwV 0 hts (tw_GV tw_cons cw_Machine_stopCall lk_Machine_374 in_Machine_stopCall sel_Machine_stopCall ini_Machine) rfl rfl rfl ⟨rfl, hd_Machine_stopCall⟩ ⟨Nat.le_of_ble_eq_true rfl, Nat.le_of_ble_eq_true rfl⟩) (xpV hK hP hD hS hE hFc xo_11 rfl) rfl rfl hl.1 rfl (lv_room (Nat.le_of_ble_eq_true rfl)) d_Machine_runningWord_238 ⟨show kc_7 + 0 ≤ mc by omega, show ks_8 + 0 ≤ ms by omega⟩) hS (fun q _ h => hFc q h) hFc (fun kc_109 ks_110 r9 u9 t9 H locs ekc eks ht hvm e9 hB hz1 hk1 hS => ?_)
    replace hkc : kc_109 + k2.1 = mc := by omega
    replace hks : ks_110 + k2.2 = ms := by omega
    clear ekc eks
    have e9 : r_108 = r9 := e9
    subst e9
    obtain ⟨hP, hD⟩ := x_aft hB ht hFc
    clear hFc hk1 hz1 hvm hB ht
    obtain ⟨e1, e2, e4, e5, e6, e3⟩ := re5 hm
    obtain ⟨hP, hD⟩ := x_eqg e1 e2 e4 hP hD
    refine W.widen (k := mc) (n := ms) (show kc_109 ≤ mc by omega) (show ks_110 ≤ ms by omega) ?_
    exact W.iret hx hb hr (fun t9 ht hW => ⟨⟨_, o, rfl, e3.symm, by rw [ht]; exact hP, hD⟩, hS.F ht⟩) hS.2.2 d_Machine_runningWord_241
  replace hm := if_f c_104 hm
  rcases Classical.em (v1 = 71) with c_111 | c_111
  · replace hm := if_t c_111 hm
    refine lv_tableIn (x := v1) (tgt := 242) hx hb d_Machine_runningWord_19 (by rw [c_111]; decide) (by rw [c_111]; decide) (by rw [c_111]; rfl) (by decide) ?_
    refine lv_aload_n hx hb d_Machine_runningWord_242 rfl (lv_at hl 2 rfl) ?_
    refine lv_iload_n hx hb d_Machine_runningWord_243 rfl (lv_at hl 1 rfl) ?_
    obtain ⟨i_113, a_114, r_115, h_112, hm⟩ := ob_some hm
    have hFc := x_free hD hS hA
    refine xg_calli (va_runV (As := [.int r_2]) (rest := []) ⟨hx, hb, hml, hown, hts⟩ (x_Machine_leaveCall l dC dI cI adK adV adA u o g H.size n h_112) (cwV 1 hts (tw_GV tw_cons cw_Machine_leaveCall lk_Machine_377 in_Machine_leaveCall sel_Machine_leaveCall ini_Machine) rfl rfl rfl ⟨rfl, hd_Machine_leaveCall⟩ ⟨Nat.le_of_ble_eq_true rfl, Nat.le_of_ble_eq_true rfl⟩) (xpV hK hP hD hS hE hFc xo_11 rfl) rfl rfl hl.1 rfl (lv_room (Nat.le_of_ble_eq_true rfl)) d_Machine_runningWord_244 ⟨show kc_7 + 0 ≤ mc by omega, show ks_8 + 0 ≤ ms by omega⟩) hS (fun q _ h => hFc q h) hFc (fun kc_116 ks_117 r9 u9 t9 H locs ekc eks ht hvm e9 hB hz1 hk1 hS => ?_)
    replace hkc : kc_116 + k2.1 = mc := by omega
    replace hks : ks_117 + k2.2 = ms := by omega
    clear ekc eks
    have e9 : r_115 = r9 := e9
    subst e9
    obtain ⟨hP, hD⟩ := x_aft hB ht hFc
    clear hFc hk1 hz1 hvm hB ht
    obtain ⟨e1, e2, e4, e5, e6, e3⟩ := re5 hm
    obtain ⟨hP, hD⟩ := x_eqg e1 e2 e4 hP hD
    refine W.widen (k := mc) (n := ms) (show kc_116 ≤ mc by omega) (show ks_117 ≤ ms by omega) ?_
    exact W.iret hx hb hr (fun t9 ht hW => ⟨⟨_, o, rfl, e3.symm, by rw [ht]; exact hP, hD⟩, hS.F ht⟩) hS.2.2 d_Machine_runningWord_247
  replace hm := if_f c_111 hm
  rcases Classical.em (v1 = 72) with c_118 | c_118
  · replace hm := if_t c_118 hm
    refine lv_tableIn (x := v1) (tgt := 248) hx hb d_Machine_runningWord_19 (by rw [c_118]; decide) (by rw [c_118]; decide) (by rw [c_118]; rfl) (by decide) ?_
    refine lv_aload_n hx hb d_Machine_runningWord_248 rfl (lv_at hl 2 rfl) ?_
    refine lv_bipush (v := 8) hx hb d_Machine_runningWord_249 (by decide) ?_
    refine lv_iload_n hx hb d_Machine_runningWord_251 rfl (lv_at hl 0 rfl) ?_
    refine lv_iload_n hx hb d_Machine_runningWord_252 rfl (lv_at hl 1 rfl) ?_
    refine lv_ldc (v := (-2147483648)) hx hb hown (htt _ lk_Machine_114) d_Machine_runningWord_253 ?_
    obtain ⟨i_120, a_121, r_122, h_119, hm⟩ := ob_some hm
    have hFc := x_free hD hS hA
    refine xg_calli (va_runV (As := [.int 8, .int r_6, .int r_2, .int ((-2147483648))]) (rest := []) ⟨hx, hb, hml, hown, hts⟩ (x_Machine_open l dC dI cI adK adV adA u o g H.size n h_119) (cwV 4 hts (tw_GV tw_cons cw_Machine_open lk_Machine_353 in_Machine_open sel_Machine_open ini_Machine) rfl rfl rfl ⟨rfl, hd_Machine_open⟩ ⟨Nat.le_of_ble_eq_true rfl, Nat.le_of_ble_eq_true rfl⟩) (xpV hK hP hD hS hE hFc xo_11 rfl) rfl rfl hl.1 rfl (lv_room (Nat.le_of_ble_eq_true rfl)) d_Machine_runningWord_255 ⟨show kc_7 + 0 ≤ mc by omega, show ks_8 + 0 ≤ ms by omega⟩) hS (fun q _ h => hFc q h) hFc (fun kc_123 ks_124 r9 u9 t9 H locs ekc eks ht hvm e9 hB hz1 hk1 hS => ?_)
    replace hkc : kc_123 + k2.1 = mc := by omega
    replace hks : ks_124 + k2.2 = ms := by omega
    clear ekc eks
    have e9 : r_122 = r9 := e9
    subst e9
    obtain ⟨hP, hD⟩ := x_aft hB ht hFc
    clear hFc hk1 hz1 hvm hB ht
    obtain ⟨e1, e2, e4, e5, e6, e3⟩ := re5 hm
    obtain ⟨hP, hD⟩ := x_eqg e1 e2 e4 hP hD
    refine W.widen (k := mc) (n := ms) (show kc_123 ≤ mc by omega) (show ks_124 ≤ ms by omega) ?_
    exact W.iret hx hb hr (fun t9 ht hW => ⟨⟨_, o, rfl, e3.symm, by rw [ht]; exact hP, hD⟩, hS.F ht⟩) hS.2.2 d_Machine_runningWord_258
  replace hm := if_f c_118 hm
  rcases Classical.em (v1 = 73) with c_125 | c_125
  · replace hm := if_t c_125 hm
    refine lv_tableIn (x := v1) (tgt := 259) hx hb d_Machine_runningWord_19 (by rw [c_125]; decide) (by rw [c_125]; decide) (by rw [c_125]; rfl) (by decide) ?_
    refine lv_aload_n hx hb d_Machine_runningWord_259 rfl (lv_at hl 2 rfl) ?_
    refine lv_iload_n hx hb d_Machine_runningWord_260 rfl (lv_at hl 1 rfl) ?_
    obtain ⟨i_127, a_128, r_129, h_126, hm⟩ := ob_some hm
    have hFc := x_free hD hS hA
    refine xg_calli (va_runV (As := [.int r_2]) (rest := []) ⟨hx, hb, hml, hown, hts⟩ (x_Machine_throwTo l dC dI cI adK adV adA u o g H.size n h_126) (cwV 1 hts (tw_GV tw_cons cw_Machine_throwTo lk_Machine_380 in_Machine_throwTo sel_Machine_throwTo ini_Machine) rfl rfl rfl ⟨rfl, hd_Machine_throwTo⟩ ⟨Nat.le_of_ble_eq_true rfl, Nat.le_of_ble_eq_true rfl⟩) (xpV hK hP hD hS hE hFc xo_11 rfl) rfl rfl hl.1 rfl (lv_room (Nat.le_of_ble_eq_true rfl)) d_Machine_runningWord_261 ⟨show kc_7 + 0 ≤ mc by omega, show ks_8 + 0 ≤ ms by omega⟩) hS (fun q _ h => hFc q h) hFc (fun kc_130 ks_131 r9 u9 t9 H locs ekc eks ht hvm e9 hB hz1 hk1 hS => ?_)
    replace hkc : kc_130 + k2.1 = mc := by omega
    replace hks : ks_131 + k2.2 = ms := by omega
    clear ekc eks
    have e9 : r_129 = r9 := e9
    subst e9
    obtain ⟨hP, hD⟩ := x_aft hB ht hFc
    clear hFc hk1 hz1 hvm hB ht
    obtain ⟨e1, e2, e4, e5, e6, e3⟩ := re5 hm
    obtain ⟨hP, hD⟩ := x_eqg e1 e2 e4 hP hD
    refine W.widen (k := mc) (n := ms) (show kc_130 ≤ mc by omega) (show ks_131 ≤ ms by omega) ?_
    exact W.iret hx hb hr (fun t9 ht hW => ⟨⟨_, o, rfl, e3.symm, by rw [ht]; exact hP, hD⟩, hS.F ht⟩) hS.2.2 d_Machine_runningWord_264
  replace hm := if_f c_125 hm
  rcases Classical.em (v1 = 74) with c_132 | c_132
  · replace hm := if_t c_132 hm
    refine lv_tableIn (x := v1) (tgt := 265) hx hb d_Machine_runningWord_19 (by rw [c_132]; decide) (by rw [c_132]; decide) (by rw [c_132]; rfl) (by decide) ?_
    refine lv_aload_n hx hb d_Machine_runningWord_265 rfl (lv_at hl 2 rfl) ?_
    obtain ⟨i_134, a_135, r_136, h_133, hm⟩ := ob_some hm
    have hFc := x_free hD hS hA
    refine xg_calli (va_runV (As := []) (rest := []) ⟨hx, hb, hml, hown, hts⟩ (x_Machine_tellCaught l dC dI cI adK adV adA u o g H.size n h_133) (cwV 0 hts (tw_GV tw_cons cw_Machine_tellCaught lk_Machine_383 in_Machine_tellCaught sel_Machine_tellCaught ini_Machine) rfl rfl rfl ⟨rfl, hd_Machine_tellCaught⟩ ⟨Nat.le_of_ble_eq_true rfl, Nat.le_of_ble_eq_true rfl⟩) (xpV hK hP hD hS hE hFc xo_11 rfl) rfl rfl hl.1 rfl (lv_room (Nat.le_of_ble_eq_true rfl)) d_Machine_runningWord_266 ⟨show kc_7 + 0 ≤ mc by omega, show ks_8 + 0 ≤ ms by omega⟩) hS (fun q _ h => hFc q h) hFc (fun kc_137 ks_138 r9 u9 t9 H locs ekc eks ht hvm e9 hB hz1 hk1 hS => ?_)
    replace hkc : kc_137 + k2.1 = mc := by omega
    replace hks : ks_138 + k2.2 = ms := by omega
    clear ekc eks
    have e9 : r_136 = r9 := e9
    subst e9
    obtain ⟨hP, hD⟩ := x_aft hB ht hFc
    clear hFc hk1 hz1 hvm hB ht
    obtain ⟨e1, e2, e4, e5, e6, e3⟩ := re5 hm
    obtain ⟨hP, hD⟩ := x_eqg e1 e2 e4 hP hD
    refine W.widen (k := mc) (n := ms) (show kc_137 ≤ mc by omega) (show ks_138 ≤ ms by omega) ?_
    exact W.iret hx hb hr (fun t9 ht hW => ⟨⟨_, o, rfl, e3.symm, by rw [ht]; exact hP, hD⟩, hS.F ht⟩) hS.2.2 d_Machine_runningWord_269
  replace hm := if_f c_132 hm
  refine lv_tableOut (x := v1) (tgt := 270) hx hb d_Machine_runningWord_19 (by have q0 := lv_neT c_9 (show (60 : Int32).toInt = 60 from by decide); have q1 := lv_neT c_16 (show (61 : Int32).toInt = 61 from by decide); have q2 := lv_neT c_28 (show (62 : Int32).toInt = 62 from by decide); have q3 := lv_neT c_50 (show (63 : Int32).toInt = 63 from by decide); have q4 := lv_neT c_57 (show (64 : Int32).toInt = 64 from by decide); have q5 := lv_neT c_62 (show (65 : Int32).toInt = 65 from by decide); have q6 := lv_neT c_69 (show (66 : Int32).toInt = 66 from by decide); have q7 := lv_neT c_81 (show (67 : Int32).toInt = 67 from by decide); have q8 := lv_neT c_86 (show (68 : Int32).toInt = 68 from by decide); have q9 := lv_neT c_97 (show (69 : Int32).toInt = 69 from by decide); have q10 := lv_neT c_104 (show (70 : Int32).toInt = 70 from by decide); have q11 := lv_neT c_111 (show (71 : Int32).toInt = 71 from by decide); have q12 := lv_neT c_118 (show (72 : Int32).toInt = 72 from by decide); have q13 := lv_neT c_125 (show (73 : Int32).toInt = 73 from by decide); have q14 := lv_neT c_132 (show (74 : Int32).toInt = 74 from by decide); omega) (by decide) ?_
  refine lv_ldc (v := (-2147483647)) hx hb hown (htt _ lk_Machine_208) d_Machine_runningWord_270 ?_
  obtain ⟨e1, e2, e4, e5, e6, e3⟩ := re5 hm
  obtain ⟨hP, hD⟩ := x_eqg e1 e2 e4 hP hD
  refine W.widen (k := mc) (n := ms) (show kc_7 ≤ mc by omega) (show ks_8 ≤ ms by omega) ?_
  exact W.iret hx hb hr (fun t9 ht hW => ⟨⟨_, o, rfl, e3.symm, by rw [ht]; exact hP, hD⟩, hS.F ht⟩) hS.2.2 d_Machine_runningWord_272
