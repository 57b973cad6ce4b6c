theorem hd_Turtles_setPart : y_Turtles_setPart.cls ≠ "java/lang/invoke/MethodHandle" ∧ y_Turtles_setPart.cls ≠ "java/lang/invoke/VarHandle" ∧ (parseMethodDescriptor y_Turtles_setPart.desc).map (fun d => d.parameters.length) = some 2 := by decide +kernel
theorem hd_Turtles_part : y_Turtles_part.cls ≠ "java/lang/invoke/MethodHandle" ∧ y_Turtles_part.cls ≠ "java/lang/invoke/VarHandle" ∧ (parseMethodDescriptor y_Turtles_part.desc).map (fun d => d.parameters.length) = some 2 := by decide +kernel
theorem d_Deeds_numberWord_0 : decode b_Deeds_numberWord 0 = .ok (.aload_n 0, 1) := by decide +kernel
theorem d_Deeds_numberWord_1 : decode b_Deeds_numberWord 1 = .ok (.getfield 22, 3) := by decide +kernel
theorem d_Deeds_numberWord_4 : decode b_Deeds_numberWord 4 = .ok (.iconst 0, 1) := by decide +kernel
theorem d_Deeds_numberWord_5 : decode b_Deeds_numberWord 5 = .ok (.invokevirtual 62, 3) := by decide +kernel
theorem d_Deeds_numberWord_8 : decode b_Deeds_numberWord 8 = .ok (.iconst 1, 1) := by decide +kernel
theorem d_Deeds_numberWord_9 : decode b_Deeds_numberWord 9 = .ok (.ishr, 1) := by decide +kernel
theorem d_Deeds_numberWord_10 : decode b_Deeds_numberWord 10 = .ok (.i2l, 1) := by decide +kernel
theorem d_Deeds_numberWord_11 : decode b_Deeds_numberWord 11 = .ok (.lstore_n 2, 1) := by decide +kernel
theorem d_Deeds_numberWord_12 : decode b_Deeds_numberWord 12 = .ok (.aload_n 0, 1) := by decide +kernel
theorem d_Deeds_numberWord_13 : decode b_Deeds_numberWord 13 = .ok (.getfield 22, 3) := by decide +kernel
theorem d_Deeds_numberWord_16 : decode b_Deeds_numberWord 16 = .ok (.iconst 1, 1) := by decide +kernel
theorem d_Deeds_numberWord_17 : decode b_Deeds_numberWord 17 = .ok (.invokevirtual 62, 3) := by decide +kernel
theorem d_Deeds_numberWord_20 : decode b_Deeds_numberWord 20 = .ok (.iconst 1, 1) := by decide +kernel
theorem d_Deeds_numberWord_21 : decode b_Deeds_numberWord 21 = .ok (.ishr, 1) := by decide +kernel
theorem d_Deeds_numberWord_22 : decode b_Deeds_numberWord 22 = .ok (.i2l, 1) := by decide +kernel
theorem d_Deeds_numberWord_23 : decode b_Deeds_numberWord 23 = .ok (.lstore 4, 2) := by decide +kernel
theorem d_Deeds_numberWord_25 : decode b_Deeds_numberWord 25 = .ok (.iload_n 1, 1) := by decide +kernel
theorem d_Deeds_numberWord_26 : decode b_Deeds_numberWord 26 = .ok (.tableswitch 258 20 31 #[62, 70, 78, 86, 106, 126, 132, 152, 172, 179, 208, 237], 62) := by decide +kernel
theorem d_Deeds_numberWord_88 : decode b_Deeds_numberWord 88 = .ok (.lload_n 2, 1) := by decide +kernel
theorem d_Deeds_numberWord_89 : decode b_Deeds_numberWord 89 = .ok (.lload 4, 2) := by decide +kernel
theorem d_Deeds_numberWord_91 : decode b_Deeds_numberWord 91 = .ok (.ladd, 1) := by decide +kernel
theorem d_Deeds_numberWord_92 : decode b_Deeds_numberWord 92 = .ok (.invokestatic 153, 3) := by decide +kernel
theorem d_Deeds_numberWord_95 : decode b_Deeds_numberWord 95 = .ok (.ireturn, 1) := by decide +kernel
theorem d_Deeds_numberWord_96 : decode b_Deeds_numberWord 96 = .ok (.lload_n 2, 1) := by decide +kernel
theorem d_Deeds_numberWord_97 : decode b_Deeds_numberWord 97 = .ok (.lload 4, 2) := by decide +kernel
theorem d_Deeds_numberWord_99 : decode b_Deeds_numberWord 99 = .ok (.lsub, 1) := by decide +kernel
theorem d_Deeds_numberWord_100 : decode b_Deeds_numberWord 100 = .ok (.invokestatic 153, 3) := by decide +kernel
theorem d_Deeds_numberWord_103 : decode b_Deeds_numberWord 103 = .ok (.ireturn, 1) := by decide +kernel
theorem d_Deeds_numberWord_104 : decode b_Deeds_numberWord 104 = .ok (.lload_n 2, 1) := by decide +kernel
theorem d_Deeds_numberWord_105 : decode b_Deeds_numberWord 105 = .ok (.lload 4, 2) := by decide +kernel
theorem d_Deeds_numberWord_107 : decode b_Deeds_numberWord 107 = .ok (.lmul, 1) := by decide +kernel
theorem d_Deeds_numberWord_108 : decode b_Deeds_numberWord 108 = .ok (.invokestatic 153, 3) := by decide +kernel
theorem d_Deeds_numberWord_111 : decode b_Deeds_numberWord 111 = .ok (.ireturn, 1) := by decide +kernel
theorem d_Deeds_numberWord_112 : decode b_Deeds_numberWord 112 = .ok (.lload 4, 2) := by decide +kernel
theorem d_Deeds_numberWord_114 : decode b_Deeds_numberWord 114 = .ok (.lconst 0, 1) := by decide +kernel
theorem d_Deeds_numberWord_115 : decode b_Deeds_numberWord 115 = .ok (.lcmp, 1) := by decide +kernel
theorem d_Deeds_numberWord_116 : decode b_Deeds_numberWord 116 = .ok (.ifCond .ne 8, 3) := by decide +kernel
theorem d_Deeds_numberWord_119 : decode b_Deeds_numberWord 119 = .ok (.ldc 157, 2) := by decide +kernel
theorem d_Deeds_numberWord_121 : decode b_Deeds_numberWord 121 = .ok (.goto 10, 3) := by decide +kernel
theorem d_Deeds_numberWord_124 : decode b_Deeds_numberWord 124 = .ok (.lload_n 2, 1) := by decide +kernel
theorem d_Deeds_numberWord_125 : decode b_Deeds_numberWord 125 = .ok (.lload 4, 2) := by decide +kernel
theorem d_Deeds_numberWord_127 : decode b_Deeds_numberWord 127 = .ok (.ldiv, 1) := by decide +kernel
theorem d_Deeds_numberWord_128 : decode b_Deeds_numberWord 128 = .ok (.invokestatic 153, 3) := by decide +kernel
theorem d_Deeds_numberWord_131 : decode b_Deeds_numberWord 131 = .ok (.ireturn, 1) := by decide +kernel
theorem d_Deeds_numberWord_132 : decode b_Deeds_numberWord 132 = .ok (.lload 4, 2) := by decide +kernel
theorem d_Deeds_numberWord_134 : decode b_Deeds_numberWord 134 = .ok (.lconst 0, 1) := by decide +kernel
theorem d_Deeds_numberWord_135 : decode b_Deeds_numberWord 135 = .ok (.lcmp, 1) := by decide +kernel
theorem d_Deeds_numberWord_136 : decode b_Deeds_numberWord 136 = .ok (.ifCond .ne 8, 3) := by decide +kernel
theorem d_Deeds_numberWord_139 : decode b_Deeds_numberWord 139 = .ok (.ldc 157, 2) := by decide +kernel
theorem d_Deeds_numberWord_141 : decode b_Deeds_numberWord 141 = .ok (.goto 10, 3) := by decide +kernel
theorem d_Deeds_numberWord_144 : decode b_Deeds_numberWord 144 = .ok (.lload_n 2, 1) := by decide +kernel
theorem d_Deeds_numberWord_145 : decode b_Deeds_numberWord 145 = .ok (.lload 4, 2) := by decide +kernel
theorem d_Deeds_numberWord_147 : decode b_Deeds_numberWord 147 = .ok (.lrem, 1) := by decide +kernel
theorem d_Deeds_numberWord_148 : decode b_Deeds_numberWord 148 = .ok (.invokestatic 153, 3) := by decide +kernel
theorem d_Deeds_numberWord_151 : decode b_Deeds_numberWord 151 = .ok (.ireturn, 1) := by decide +kernel
theorem d_Deeds_numberWord_152 : decode b_Deeds_numberWord 152 = .ok (.lload_n 2, 1) := by decide +kernel
theorem d_Deeds_numberWord_153 : decode b_Deeds_numberWord 153 = .ok (.lneg, 1) := by decide +kernel
theorem d_Deeds_numberWord_154 : decode b_Deeds_numberWord 154 = .ok (.invokestatic 153, 3) := by decide +kernel
theorem d_Deeds_numberWord_157 : decode b_Deeds_numberWord 157 = .ok (.ireturn, 1) := by decide +kernel
theorem d_Deeds_numberWord_158 : decode b_Deeds_numberWord 158 = .ok (.aload_n 0, 1) := by decide +kernel
theorem d_Deeds_numberWord_159 : decode b_Deeds_numberWord 159 = .ok (.getfield 15, 3) := by decide +kernel
theorem d_Deeds_numberWord_162 : decode b_Deeds_numberWord 162 = .ok (.lload_n 2, 1) := by decide +kernel
theorem d_Deeds_numberWord_163 : decode b_Deeds_numberWord 163 = .ok (.lload 4, 2) := by decide +kernel
theorem d_Deeds_numberWord_165 : decode b_Deeds_numberWord 165 = .ok (.lcmp, 1) := by decide +kernel
theorem d_Deeds_numberWord_166 : decode b_Deeds_numberWord 166 = .ok (.ifCond .ge 7, 3) := by decide +kernel
theorem d_Deeds_numberWord_169 : decode b_Deeds_numberWord 169 = .ok (.iconst 1, 1) := by decide +kernel
theorem d_Deeds_numberWord_170 : decode b_Deeds_numberWord 170 = .ok (.goto 4, 3) := by decide +kernel
theorem d_Deeds_numberWord_173 : decode b_Deeds_numberWord 173 = .ok (.iconst 0, 1) := by decide +kernel
theorem d_Deeds_numberWord_174 : decode b_Deeds_numberWord 174 = .ok (.invokevirtual 150, 3) := by decide +kernel
theorem d_Deeds_numberWord_177 : decode b_Deeds_numberWord 177 = .ok (.ireturn, 1) := by decide +kernel
theorem d_Deeds_numberWord_178 : decode b_Deeds_numberWord 178 = .ok (.aload_n 0, 1) := by decide +kernel
theorem d_Deeds_numberWord_179 : decode b_Deeds_numberWord 179 = .ok (.getfield 15, 3) := by decide +kernel
theorem d_Deeds_numberWord_182 : decode b_Deeds_numberWord 182 = .ok (.lload_n 2, 1) := by decide +kernel
theorem d_Deeds_numberWord_183 : decode b_Deeds_numberWord 183 = .ok (.lload 4, 2) := by decide +kernel
theorem d_Deeds_numberWord_185 : decode b_Deeds_numberWord 185 = .ok (.lcmp, 1) := by decide +kernel
theorem d_Deeds_numberWord_186 : decode b_Deeds_numberWord 186 = .ok (.ifCond .le 7, 3) := by decide +kernel
theorem d_Deeds_numberWord_189 : decode b_Deeds_numberWord 189 = .ok (.iconst 1, 1) := by decide +kernel
theorem d_Deeds_numberWord_190 : decode b_Deeds_numberWord 190 = .ok (.goto 4, 3) := by decide +kernel
theorem d_Deeds_numberWord_193 : decode b_Deeds_numberWord 193 = .ok (.iconst 0, 1) := by decide +kernel
theorem d_Deeds_numberWord_194 : decode b_Deeds_numberWord 194 = .ok (.invokevirtual 150, 3) := by decide +kernel
theorem d_Deeds_numberWord_197 : decode b_Deeds_numberWord 197 = .ok (.ireturn, 1) := by decide +kernel
theorem d_Deeds_numberWord_198 : decode b_Deeds_numberWord 198 = .ok (.aload_n 0, 1) := by decide +kernel
theorem d_Deeds_numberWord_199 : decode b_Deeds_numberWord 199 = .ok (.lload_n 2, 1) := by decide +kernel
theorem d_Deeds_numberWord_200 : decode b_Deeds_numberWord 200 = .ok (.l2i, 1) := by decide +kernel
theorem d_Deeds_numberWord_201 : decode b_Deeds_numberWord 201 = .ok (.invokevirtual 158, 3) := by decide +kernel
theorem d_Deeds_numberWord_204 : decode b_Deeds_numberWord 204 = .ok (.ireturn, 1) := by decide +kernel
theorem d_Deeds_numberWord_205 : decode b_Deeds_numberWord 205 = .ok (.aload_n 0, 1) := by decide +kernel
theorem d_Deeds_numberWord_206 : decode b_Deeds_numberWord 206 = .ok (.getfield 15, 3) := by decide +kernel
theorem d_Deeds_numberWord_209 : decode b_Deeds_numberWord 209 = .ok (.aload_n 0, 1) := by decide +kernel
theorem d_Deeds_numberWord_210 : decode b_Deeds_numberWord 210 = .ok (.iconst 0, 1) := by decide +kernel
theorem d_Deeds_numberWord_211 : decode b_Deeds_numberWord 211 = .ok (.invokevirtual 161, 3) := by decide +kernel
theorem d_Deeds_numberWord_214 : decode b_Deeds_numberWord 214 = .ok (.ifCond .eq 15, 3) := by decide +kernel
theorem d_Deeds_numberWord_217 : decode b_Deeds_numberWord 217 = .ok (.aload_n 0, 1) := by decide +kernel
theorem d_Deeds_numberWord_218 : decode b_Deeds_numberWord 218 = .ok (.iconst 1, 1) := by decide +kernel
theorem d_Deeds_numberWord_219 : decode b_Deeds_numberWord 219 = .ok (.invokevirtual 161, 3) := by decide +kernel
theorem d_Deeds_numberWord_222 : decode b_Deeds_numberWord 222 = .ok (.ifCond .eq 7, 3) := by decide +kernel
theorem d_Deeds_numberWord_225 : decode b_Deeds_numberWord 225 = .ok (.iconst 1, 1) := by decide +kernel
theorem d_Deeds_numberWord_226 : decode b_Deeds_numberWord 226 = .ok (.goto 4, 3) := by decide +kernel
theorem d_Deeds_numberWord_229 : decode b_Deeds_numberWord 229 = .ok (.iconst 0, 1) := by decide +kernel
theorem d_Deeds_numberWord_230 : decode b_Deeds_numberWord 230 = .ok (.invokevirtual 150, 3) := by decide +kernel
theorem d_Deeds_numberWord_233 : decode b_Deeds_numberWord 233 = .ok (.ireturn, 1) := by decide +kernel
theorem d_Deeds_numberWord_234 : decode b_Deeds_numberWord 234 = .ok (.aload_n 0, 1) := by decide +kernel
theorem d_Deeds_numberWord_235 : decode b_Deeds_numberWord 235 = .ok (.getfield 15, 3) := by decide +kernel
theorem d_Deeds_numberWord_238 : decode b_Deeds_numberWord 238 = .ok (.aload_n 0, 1) := by decide +kernel
theorem d_Deeds_numberWord_239 : decode b_Deeds_numberWord 239 = .ok (.iconst 0, 1) := by decide +kernel
theorem d_Deeds_numberWord_240 : decode b_Deeds_numberWord 240 = .ok (.invokevirtual 161, 3) := by decide +kernel
theorem d_Deeds_numberWord_243 : decode b_Deeds_numberWord 243 = .ok (.ifCond .ne 11, 3) := by decide +kernel
theorem d_Deeds_numberWord_246 : decode b_Deeds_numberWord 246 = .ok (.aload_n 0, 1) := by decide +kernel
theorem d_Deeds_numberWord_247 : decode b_Deeds_numberWord 247 = .ok (.iconst 1, 1) := by decide +kernel
theorem d_Deeds_numberWord_248 : decode b_Deeds_numberWord 248 = .ok (.invokevirtual 161, 3) := by decide +kernel
theorem d_Deeds_numberWord_251 : decode b_Deeds_numberWord 251 = .ok (.ifCond .eq 7, 3) := by decide +kernel
theorem d_Deeds_numberWord_254 : decode b_Deeds_numberWord 254 = .ok (.iconst 1, 1) := by decide +kernel
theorem d_Deeds_numberWord_255 : decode b_Deeds_numberWord 255 = .ok (.goto 4, 3) := by decide +kernel
theorem d_Deeds_numberWord_258 : decode b_Deeds_numberWord 258 = .ok (.iconst 0, 1) := by decide +kernel
theorem d_Deeds_numberWord_259 : decode b_Deeds_numberWord 259 = .ok (.invokevirtual 150, 3) := by decide +kernel
theorem d_Deeds_numberWord_262 : decode b_Deeds_numberWord 262 = .ok (.ireturn, 1) := by decide +kernel
theorem d_Deeds_numberWord_263 : decode b_Deeds_numberWord 263 = .ok (.aload_n 0, 1) := by decide +kernel
theorem d_Deeds_numberWord_264 : decode b_Deeds_numberWord 264 = .ok (.getfield 15, 3) := by decide +kernel
theorem d_Deeds_numberWord_267 : decode b_Deeds_numberWord 267 = .ok (.aload_n 0, 1) := by decide +kernel
theorem d_Deeds_numberWord_268 : decode b_Deeds_numberWord 268 = .ok (.iconst 0, 1) := by decide +kernel
theorem d_Deeds_numberWord_269 : decode b_Deeds_numberWord 269 = .ok (.invokevirtual 161, 3) := by decide +kernel
theorem d_Deeds_numberWord_272 : decode b_Deeds_numberWord 272 = .ok (.ifCond .ne 7, 3) := by decide +kernel
theorem d_Deeds_numberWord_275 : decode b_Deeds_numberWord 275 = .ok (.iconst 1, 1) := by decide +kernel
theorem d_Deeds_numberWord_276 : decode b_Deeds_numberWord 276 = .ok (.goto 4, 3) := by decide +kernel
theorem d_Deeds_numberWord_279 : decode b_Deeds_numberWord 279 = .ok (.iconst 0, 1) := by decide +kernel
theorem d_Deeds_numberWord_280 : decode b_Deeds_numberWord 280 = .ok (.invokevirtual 150, 3) := by decide +kernel
theorem d_Deeds_numberWord_283 : decode b_Deeds_numberWord 283 = .ok (.ireturn, 1) := by decide +kernel
theorem d_Deeds_numberWord_284 : decode b_Deeds_numberWord 284 = .ok (.ldc 142, 2) := by decide +kernel
theorem d_Deeds_numberWord_286 : decode b_Deeds_numberWord 286 = .ok (.ireturn, 1) := by decide +kernel
theorem lk_Deeds_153 : Cond.methodLink "TurtleWorld$Deeds" 153 ⟨"TurtleWorld$Deeds", "inBounds", "(J)I"⟩ ∈ tw_T := tw_i6 150 (by decide +kernel) (by decide +kernel)
theorem hd_Deeds_inBounds : y_Deeds_inBounds.cls ≠ "java/lang/invoke/MethodHandle" ∧ y_Deeds_inBounds.cls ≠ "java/lang/invoke/VarHandle" ∧ (parseMethodDescriptor y_Deeds_inBounds.desc).map (fun d => d.parameters.length) = some 1 := by decide +kernel
theorem st_Deeds_inBounds : Cond.static ⟨"TurtleWorld$Deeds", "inBounds", "(J)I"⟩ ∈ tw_T := tw_i6 151 (by decide +kernel) (by decide +kernel)
theorem lk_Deeds_157 : Cond.constant "TurtleWorld$Deeds" 157 (-2147483638) ∈ tw_T := tw_i6 156 (by decide +kernel) (by decide +kernel)
theorem hd_Heap_truth : y_Heap_truth.cls ≠ "java/lang/invoke/MethodHandle" ∧ y_Heap_truth.cls ≠ "java/lang/invoke/VarHandle" ∧ (parseMethodDescriptor y_Heap_truth.desc).map (fun d => d.parameters.length) = some 1 := by decide +kernel
theorem lk_Deeds_158 : Cond.methodLink "TurtleWorld$Deeds" 158 ⟨"TurtleWorld$Deeds", "random", "(I)I"⟩ ∈ tw_T := tw_i6 157 (by decide +kernel) (by decide +kernel)
theorem hd_Deeds_random : y_Deeds_random.cls ≠ "java/lang/invoke/MethodHandle" ∧ y_Deeds_random.cls ≠ "java/lang/invoke/VarHandle" ∧ (parseMethodDescriptor y_Deeds_random.desc).map (fun d => d.parameters.length) = some 1 := by decide +kernel
theorem in_Deeds_random : Cond.instanceMethod ⟨"TurtleWorld$Deeds", "random", "(I)I"⟩ ∈ tw_T := tw_i6 159 (by decide +kernel) (by decide +kernel)
theorem sel_Deeds_random : Cond.selects "TurtleWorld$Deeds" ⟨"TurtleWorld$Deeds", "random", "(I)I"⟩ ⟨"TurtleWorld$Deeds", "random", "(I)I"⟩ ∈ tw_T := tw_inS 60 (by decide +kernel) (by decide +kernel)
theorem lk_Deeds_161 : Cond.methodLink "TurtleWorld$Deeds" 161 ⟨"TurtleWorld$Deeds", "isTrue", "(I)Z"⟩ ∈ tw_T := tw_i6 162 (by decide +kernel) (by decide +kernel)
theorem hd_Deeds_isTrue : y_Deeds_isTrue.cls ≠ "java/lang/invoke/MethodHandle" ∧ y_Deeds_isTrue.cls ≠ "java/lang/invoke/VarHandle" ∧ (parseMethodDescriptor y_Deeds_isTrue.desc).map (fun d => d.parameters.length) = some 1 := by decide +kernel
theorem in_Deeds_isTrue : Cond.instanceMethod ⟨"TurtleWorld$Deeds", "isTrue", "(I)Z"⟩ ∈ tw_T := tw_i6 163 (by decide +kernel) (by decide +kernel)
theorem sel_Deeds_isTrue : Cond.selects "TurtleWorld$Deeds" ⟨"TurtleWorld$Deeds", "isTrue", "(I)Z"⟩ ⟨"TurtleWorld$Deeds", "isTrue", "(I)Z"⟩ ∈ tw_T := tw_i6 164 (by decide +kernel) (by decide +kernel)
theorem lk_Deeds_142 : Cond.constant "TurtleWorld$Deeds" 142 (-2147483647) ∈ tw_T := tw_i6 145 (by decide +kernel) (by decide +kernel)
theorem d_Heap_equal_0 : decode b_Heap_equal 0 = .ok (.aload_n 0, 1) := by decide +kernel
theorem d_Heap_equal_1 : decode b_Heap_equal 1 = .ok (.iload_n 1, 1) := by decide +kernel
theorem d_Heap_equal_2 : decode b_Heap_equal 2 = .ok (.iload_n 2, 1) := by decide +kernel
theorem d_Heap_equal_3 : decode b_Heap_equal 3 = .ok (.invokevirtual 146, 3) := by decide +kernel
theorem d_Heap_equal_6 : decode b_Heap_equal 6 = .ok (.ifCond .ne 5, 3) := by decide +kernel
theorem d_Heap_equal_9 : decode b_Heap_equal 9 = .ok (.iconst 0, 1) := by decide +kernel
theorem d_Heap_equal_10 : decode b_Heap_equal 10 = .ok (.ireturn, 1) := by decide +kernel
theorem d_Heap_equal_11 : decode b_Heap_equal 11 = .ok (.aload_n 0, 1) := by decide +kernel
theorem d_Heap_equal_12 : decode b_Heap_equal 12 = .ok (.getfield 22, 3) := by decide +kernel
theorem d_Heap_equal_15 : decode b_Heap_equal 15 = .ok (.iconst 0, 1) := by decide +kernel
theorem d_Heap_equal_16 : decode b_Heap_equal 16 = .ok (.iload_n 1, 1) := by decide +kernel
theorem d_Heap_equal_17 : decode b_Heap_equal 17 = .ok (.iastore, 1) := by decide +kernel
theorem d_Heap_equal_18 : decode b_Heap_equal 18 = .ok (.aload_n 0, 1) := by decide +kernel
theorem d_Heap_equal_19 : decode b_Heap_equal 19 = .ok (.getfield 25, 3) := by decide +kernel
theorem d_Heap_equal_22 : decode b_Heap_equal 22 = .ok (.iconst 0, 1) := by decide +kernel
theorem d_Heap_equal_23 : decode b_Heap_equal 23 = .ok (.iload_n 2, 1) := by decide +kernel
theorem d_Heap_equal_24 : decode b_Heap_equal 24 = .ok (.iastore, 1) := by decide +kernel
theorem d_Heap_equal_25 : decode b_Heap_equal 25 = .ok (.aload_n 0, 1) := by decide +kernel
theorem d_Heap_equal_26 : decode b_Heap_equal 26 = .ok (.getfield 28, 3) := by decide +kernel
theorem d_Heap_equal_29 : decode b_Heap_equal 29 = .ok (.iconst 0, 1) := by decide +kernel
theorem d_Heap_equal_30 : decode b_Heap_equal 30 = .ok (.iconst 0, 1) := by decide +kernel
theorem d_Heap_equal_31 : decode b_Heap_equal 31 = .ok (.iastore, 1) := by decide +kernel
theorem d_Heap_equal_32 : decode b_Heap_equal 32 = .ok (.iload_n 1, 1) := by decide +kernel
theorem d_Heap_equal_33 : decode b_Heap_equal 33 = .ok (.iload_n 2, 1) := by decide +kernel
theorem d_Heap_equal_34 : decode b_Heap_equal 34 = .ok (.if_icmp .eq 10, 3) := by decide +kernel
theorem d_Heap_equal_37 : decode b_Heap_equal 37 = .ok (.iload_n 1, 1) := by decide +kernel
theorem d_Heap_equal_38 : decode b_Heap_equal 38 = .ok (.invokestatic 143, 3) := by decide +kernel
theorem d_Heap_equal_41 : decode b_Heap_equal 41 = .ok (.ifCond .ne 7, 3) := by decide +kernel
theorem d_Heap_equal_44 : decode b_Heap_equal 44 = .ok (.iconst 0, 1) := by decide +kernel
theorem d_Heap_equal_45 : decode b_Heap_equal 45 = .ok (.goto 4, 3) := by decide +kernel
theorem d_Heap_equal_48 : decode b_Heap_equal 48 = .ok (.iconst 1, 1) := by decide +kernel
theorem d_Heap_equal_49 : decode b_Heap_equal 49 = .ok (.istore_n 3, 1) := by decide +kernel
theorem d_Heap_equal_50 : decode b_Heap_equal 50 = .ok (.iconst 0, 1) := by decide +kernel
theorem d_Heap_equal_51 : decode b_Heap_equal 51 = .ok (.istore 4, 2) := by decide +kernel
theorem d_Heap_equal_53 : decode b_Heap_equal 53 = .ok (.iload 4, 2) := by decide +kernel
theorem d_Heap_equal_55 : decode b_Heap_equal 55 = .ok (.ldc 149, 2) := by decide +kernel
theorem d_Heap_equal_57 : decode b_Heap_equal 57 = .ok (.if_icmp .ge 141, 3) := by decide +kernel
theorem d_Heap_equal_60 : decode b_Heap_equal 60 = .ok (.iload_n 3, 1) := by decide +kernel
theorem d_Heap_equal_61 : decode b_Heap_equal 61 = .ok (.ifCond .le 137, 3) := by decide +kernel
theorem d_Heap_equal_64 : decode b_Heap_equal 64 = .ok (.aload_n 0, 1) := by decide +kernel
theorem d_Heap_equal_65 : decode b_Heap_equal 65 = .ok (.getfield 28, 3) := by decide +kernel
theorem d_Heap_equal_68 : decode b_Heap_equal 68 = .ok (.iload_n 3, 1) := by decide +kernel
theorem d_Heap_equal_69 : decode b_Heap_equal 69 = .ok (.iconst 1, 1) := by decide +kernel
theorem d_Heap_equal_70 : decode b_Heap_equal 70 = .ok (.isub, 1) := by decide +kernel
theorem d_Heap_equal_71 : decode b_Heap_equal 71 = .ok (.iaload, 1) := by decide +kernel
theorem d_Heap_equal_72 : decode b_Heap_equal 72 = .ok (.istore 5, 2) := by decide +kernel
theorem d_Heap_equal_74 : decode b_Heap_equal 74 = .ok (.aload_n 0, 1) := by decide +kernel
theorem d_Heap_equal_75 : decode b_Heap_equal 75 = .ok (.getfield 28, 3) := by decide +kernel
theorem d_Heap_equal_78 : decode b_Heap_equal 78 = .ok (.iload_n 3, 1) := by decide +kernel
theorem d_Heap_equal_79 : decode b_Heap_equal 79 = .ok (.iconst 1, 1) := by decide +kernel
theorem d_Heap_equal_80 : decode b_Heap_equal 80 = .ok (.isub, 1) := by decide +kernel
theorem d_Heap_equal_81 : decode b_Heap_equal 81 = .ok (.iload 5, 2) := by decide +kernel
theorem d_Heap_equal_83 : decode b_Heap_equal 83 = .ok (.iconst 1, 1) := by decide +kernel
theorem d_Heap_equal_84 : decode b_Heap_equal 84 = .ok (.iadd, 1) := by decide +kernel
theorem d_Heap_equal_85 : decode b_Heap_equal 85 = .ok (.iastore, 1) := by decide +kernel
theorem d_Heap_equal_86 : decode b_Heap_equal 86 = .ok (.aload_n 0, 1) := by decide +kernel
theorem d_Heap_equal_87 : decode b_Heap_equal 87 = .ok (.aload_n 0, 1) := by decide +kernel
theorem d_Heap_equal_88 : decode b_Heap_equal 88 = .ok (.getfield 22, 3) := by decide +kernel
theorem d_Heap_equal_91 : decode b_Heap_equal 91 = .ok (.iload_n 3, 1) := by decide +kernel
theorem d_Heap_equal_92 : decode b_Heap_equal 92 = .ok (.iconst 1, 1) := by decide +kernel
theorem d_Heap_equal_93 : decode b_Heap_equal 93 = .ok (.isub, 1) := by decide +kernel
theorem d_Heap_equal_94 : decode b_Heap_equal 94 = .ok (.iaload, 1) := by decide +kernel
theorem d_Heap_equal_95 : decode b_Heap_equal 95 = .ok (.iload 5, 2) := by decide +kernel
theorem d_Heap_equal_97 : decode b_Heap_equal 97 = .ok (.invokevirtual 150, 3) := by decide +kernel
theorem d_Heap_equal_100 : decode b_Heap_equal 100 = .ok (.istore 6, 2) := by decide +kernel
theorem d_Heap_equal_102 : decode b_Heap_equal 102 = .ok (.aload_n 0, 1) := by decide +kernel
theorem d_Heap_equal_103 : decode b_Heap_equal 103 = .ok (.aload_n 0, 1) := by decide +kernel
theorem d_Heap_equal_104 : decode b_Heap_equal 104 = .ok (.getfield 25, 3) := by decide +kernel
theorem d_Heap_equal_107 : decode b_Heap_equal 107 = .ok (.iload_n 3, 1) := by decide +kernel
theorem d_Heap_equal_108 : decode b_Heap_equal 108 = .ok (.iconst 1, 1) := by decide +kernel
theorem d_Heap_equal_109 : decode b_Heap_equal 109 = .ok (.isub, 1) := by decide +kernel
theorem d_Heap_equal_110 : decode b_Heap_equal 110 = .ok (.iaload, 1) := by decide +kernel
theorem d_Heap_equal_111 : decode b_Heap_equal 111 = .ok (.iload 5, 2) := by decide +kernel
theorem d_Heap_equal_113 : decode b_Heap_equal 113 = .ok (.invokevirtual 150, 3) := by decide +kernel
theorem d_Heap_equal_116 : decode b_Heap_equal 116 = .ok (.istore 7, 2) := by decide +kernel
theorem d_Heap_equal_118 : decode b_Heap_equal 118 = .ok (.iload 6, 2) := by decide +kernel
theorem d_Heap_equal_120 : decode b_Heap_equal 120 = .ok (.ldc 71, 2) := by decide +kernel
theorem d_Heap_equal_122 : decode b_Heap_equal 122 = .ok (.if_icmp .ne 9, 3) := by decide +kernel
theorem d_Heap_equal_125 : decode b_Heap_equal 125 = .ok (.iinc 3 (-1), 3) := by decide +kernel
theorem d_Heap_equal_128 : decode b_Heap_equal 128 = .ok (.goto 64, 3) := by decide +kernel
theorem d_Heap_equal_131 : decode b_Heap_equal 131 = .ok (.aload_n 0, 1) := by decide +kernel
theorem d_Heap_equal_132 : decode b_Heap_equal 132 = .ok (.iload 6, 2) := by decide +kernel
theorem d_Heap_equal_134 : decode b_Heap_equal 134 = .ok (.iload 7, 2) := by decide +kernel
theorem d_Heap_equal_136 : decode b_Heap_equal 136 = .ok (.invokevirtual 146, 3) := by decide +kernel
theorem d_Heap_equal_139 : decode b_Heap_equal 139 = .ok (.ifCond .ne 5, 3) := by decide +kernel
theorem d_Heap_equal_142 : decode b_Heap_equal 142 = .ok (.iconst 0, 1) := by decide +kernel
theorem d_Heap_equal_143 : decode b_Heap_equal 143 = .ok (.ireturn, 1) := by decide +kernel
theorem d_Heap_equal_144 : decode b_Heap_equal 144 = .ok (.iload 6, 2) := by decide +kernel
theorem d_Heap_equal_146 : decode b_Heap_equal 146 = .ok (.invokestatic 143, 3) := by decide +kernel
theorem d_Heap_equal_149 : decode b_Heap_equal 149 = .ok (.ifCond .eq 43, 3) := by decide +kernel
theorem d_Heap_equal_152 : decode b_Heap_equal 152 = .ok (.iload 6, 2) := by decide +kernel
theorem d_Heap_equal_154 : decode b_Heap_equal 154 = .ok (.iload 7, 2) := by decide +kernel
theorem d_Heap_equal_156 : decode b_Heap_equal 156 = .ok (.if_icmp .eq 36, 3) := by decide +kernel
theorem d_Heap_equal_159 : decode b_Heap_equal 159 = .ok (.iload_n 3, 1) := by decide +kernel
theorem d_Heap_equal_160 : decode b_Heap_equal 160 = .ok (.sipush 700, 3) := by decide +kernel
theorem d_Heap_equal_163 : decode b_Heap_equal 163 = .ok (.if_icmp .ge 29, 3) := by decide +kernel
theorem d_Heap_equal_166 : decode b_Heap_equal 166 = .ok (.aload_n 0, 1) := by decide +kernel
theorem d_Heap_equal_167 : decode b_Heap_equal 167 = .ok (.getfield 22, 3) := by decide +kernel
theorem d_Heap_equal_170 : decode b_Heap_equal 170 = .ok (.iload_n 3, 1) := by decide +kernel
theorem d_Heap_equal_171 : decode b_Heap_equal 171 = .ok (.iload 6, 2) := by decide +kernel
theorem d_Heap_equal_173 : decode b_Heap_equal 173 = .ok (.iastore, 1) := by decide +kernel
theorem d_Heap_equal_174 : decode b_Heap_equal 174 = .ok (.aload_n 0, 1) := by decide +kernel
theorem d_Heap_equal_175 : decode b_Heap_equal 175 = .ok (.getfield 25, 3) := by decide +kernel
theorem d_Heap_equal_178 : decode b_Heap_equal 178 = .ok (.iload_n 3, 1) := by decide +kernel
theorem d_Heap_equal_179 : decode b_Heap_equal 179 = .ok (.iload 7, 2) := by decide +kernel
theorem d_Heap_equal_181 : decode b_Heap_equal 181 = .ok (.iastore, 1) := by decide +kernel
theorem d_Heap_equal_182 : decode b_Heap_equal 182 = .ok (.aload_n 0, 1) := by decide +kernel
theorem d_Heap_equal_183 : decode b_Heap_equal 183 = .ok (.getfield 28, 3) := by decide +kernel
theorem d_Heap_equal_186 : decode b_Heap_equal 186 = .ok (.iload_n 3, 1) := by decide +kernel
theorem d_Heap_equal_187 : decode b_Heap_equal 187 = .ok (.iconst 0, 1) := by decide +kernel
theorem d_Heap_equal_188 : decode b_Heap_equal 188 = .ok (.iastore, 1) := by decide +kernel
theorem d_Heap_equal_189 : decode b_Heap_equal 189 = .ok (.iinc 3 1, 3) := by decide +kernel
theorem d_Heap_equal_192 : decode b_Heap_equal 192 = .ok (.iinc 4 1, 3) := by decide +kernel
theorem d_Heap_equal_195 : decode b_Heap_equal 195 = .ok (.goto (-142), 3) := by decide +kernel
theorem d_Heap_equal_198 : decode b_Heap_equal 198 = .ok (.iconst 1, 1) := by decide +kernel
theorem d_Heap_equal_199 : decode b_Heap_equal 199 = .ok (.ireturn, 1) := by decide +kernel
theorem lk_Heap_146 : Cond.methodLink "TurtleWorld$Heap" 146 ⟨"TurtleWorld$Heap", "alike", "(II)Z"⟩ ∈ tw_T := tw_i6 174 (by decide +kernel) (by decide +kernel)
theorem hd_Heap_alike : y_Heap_alike.cls ≠ "java/lang/invoke/MethodHandle" ∧ y_Heap_alike.cls ≠ "java/lang/invoke/VarHandle" ∧ (parseMethodDescriptor y_Heap_alike.desc).map (fun d => d.parameters.length) = some 2 := by decide +kernel
theorem in_Heap_alike : Cond.instanceMethod ⟨"TurtleWorld$Heap", "alike", "(II)Z"⟩ ∈ tw_T := tw_i6 176 (by decide +kernel) (by decide +kernel)
theorem sel_Heap_alike : Cond.selects "TurtleWorld$Heap" ⟨"TurtleWorld$Heap", "alike", "(II)Z"⟩ ⟨"TurtleWorld$Heap", "alike", "(II)Z"⟩ ∈ tw_T := tw_inS 61 (by decide +kernel) (by decide +kernel)
theorem lk_Heap_150 : Cond.methodLink "TurtleWorld$Heap" 150 ⟨"TurtleWorld$Heap", "member", "(II)I"⟩ ∈ tw_T := tw_i6 180 (by decide +kernel) (by decide +kernel)
theorem d_Deeds_madeList_0 : decode b_Deeds_madeList 0 = .ok (.iload_n 2, 1) := by decide +kernel
theorem d_Deeds_madeList_1 : decode b_Deeds_madeList 1 = .ok (.sipush 600, 3) := by decide +kernel
theorem d_Deeds_madeList_4 : decode b_Deeds_madeList 4 = .ok (.if_icmp .gt 20, 3) := by decide +kernel
theorem d_Deeds_madeList_7 : decode b_Deeds_madeList 7 = .ok (.aload_n 0, 1) := by decide +kernel
theorem d_Deeds_madeList_8 : decode b_Deeds_madeList 8 = .ok (.getfield 18, 3) := by decide +kernel
theorem d_Deeds_madeList_11 : decode b_Deeds_madeList 11 = .ok (.getfield 199, 3) := by decide +kernel
theorem d_Deeds_madeList_14 : decode b_Deeds_madeList 14 = .ok (.iload_n 1, 1) := by decide +kernel
theorem d_Deeds_madeList_15 : decode b_Deeds_madeList 15 = .ok (.iadd, 1) := by decide +kernel
theorem d_Deeds_madeList_16 : decode b_Deeds_madeList 16 = .ok (.iconst 1, 1) := by decide +kernel
theorem d_Deeds_madeList_17 : decode b_Deeds_madeList 17 = .ok (.iadd, 1) := by decide +kernel
theorem d_Deeds_madeList_18 : decode b_Deeds_madeList 18 = .ok (.sipush 30000, 3) := by decide +kernel
theorem d_Deeds_madeList_21 : decode b_Deeds_madeList 21 = .ok (.if_icmp .le 6, 3) := by decide +kernel
theorem d_Deeds_madeList_24 : decode b_Deeds_madeList 24 = .ok (.ldc 202, 2) := by decide +kernel
theorem d_Deeds_madeList_26 : decode b_Deeds_madeList 26 = .ok (.ireturn, 1) := by decide +kernel
theorem d_Deeds_madeList_27 : decode b_Deeds_madeList 27 = .ok (.aload_n 0, 1) := by decide +kernel
theorem d_Deeds_madeList_28 : decode b_Deeds_madeList 28 = .ok (.getfield 15, 3) := by decide +kernel
theorem d_Deeds_madeList_31 : decode b_Deeds_madeList 31 = .ok (.iload_n 1, 1) := by decide +kernel
theorem d_Deeds_madeList_32 : decode b_Deeds_madeList 32 = .ok (.iload_n 2, 1) := by decide +kernel
theorem d_Deeds_madeList_33 : decode b_Deeds_madeList 33 = .ok (.invokevirtual 203, 3) := by decide +kernel
theorem d_Deeds_madeList_36 : decode b_Deeds_madeList 36 = .ok (.istore_n 3, 1) := by decide +kernel
theorem d_Deeds_madeList_37 : decode b_Deeds_madeList 37 = .ok (.iload_n 3, 1) := by decide +kernel
theorem d_Deeds_madeList_38 : decode b_Deeds_madeList 38 = .ok (.ldc 206, 2) := by decide +kernel
theorem d_Deeds_madeList_40 : decode b_Deeds_madeList 40 = .ok (.if_icmp .ne 6, 3) := by decide +kernel
theorem d_Deeds_madeList_43 : decode b_Deeds_madeList 43 = .ok (.ldc 202, 2) := by decide +kernel
theorem d_Deeds_madeList_45 : decode b_Deeds_madeList 45 = .ok (.ireturn, 1) := by decide +kernel
theorem d_Deeds_madeList_46 : decode b_Deeds_madeList 46 = .ok (.aload_n 0, 1) := by decide +kernel
theorem d_Deeds_madeList_47 : decode b_Deeds_madeList 47 = .ok (.getfield 18, 3) := by decide +kernel
theorem d_Deeds_madeList_50 : decode b_Deeds_madeList 50 = .ok (.dup, 1) := by decide +kernel
theorem d_Deeds_madeList_51 : decode b_Deeds_madeList 51 = .ok (.getfield 199, 3) := by decide +kernel
theorem d_Deeds_madeList_54 : decode b_Deeds_madeList 54 = .ok (.iload_n 1, 1) := by decide +kernel
theorem d_Deeds_madeList_55 : decode b_Deeds_madeList 55 = .ok (.iconst 1, 1) := by decide +kernel
theorem d_Deeds_madeList_56 : decode b_Deeds_madeList 56 = .ok (.iadd, 1) := by decide +kernel
theorem d_Deeds_madeList_57 : decode b_Deeds_madeList 57 = .ok (.iadd, 1) := by decide +kernel
theorem d_Deeds_madeList_58 : decode b_Deeds_madeList 58 = .ok (.putfield 199, 3) := by decide +kernel
theorem d_Deeds_madeList_61 : decode b_Deeds_madeList 61 = .ok (.iload_n 3, 1) := by decide +kernel
theorem d_Deeds_madeList_62 : decode b_Deeds_madeList 62 = .ok (.ireturn, 1) := by decide +kernel
theorem lk_Deeds_202 : Cond.constant "TurtleWorld$Deeds" 202 (-2147483640) ∈ tw_T := tw_i6 196 (by decide +kernel) (by decide +kernel)
theorem lk_Deeds_199 : Cond.fieldLink "TurtleWorld$Deeds" 199 "TurtleWorld$Line" "made" "I" ∈ tw_T := tw_i3 5 (by decide +kernel) (by decide +kernel)
theorem lk_Deeds_203 : Cond.methodLink "TurtleWorld$Deeds" 203 ⟨"TurtleWorld$Heap", "newList", "(II)I"⟩ ∈ tw_T := tw_i6 197 (by decide +kernel) (by decide +kernel)
theorem hd_Heap_newList : y_Heap_newList.cls ≠ "java/lang/invoke/MethodHandle" ∧ y_Heap_newList.cls ≠ "java/lang/invoke/VarHandle" ∧ (parseMethodDescriptor y_Heap_newList.desc).map (fun d => d.parameters.length) = some 2 := by decide +kernel
theorem lk_Deeds_206 : Cond.constant "TurtleWorld$Deeds" 206 (-2147483648) ∈ tw_T := tw_i6 198 (by decide +kernel) (by decide +kernel)
theorem d_Output_addShown_0 : decode b_Output_addShown 0 = .ok (.iload_n 1, 1) := by decide +kernel
theorem d_Output_addShown_1 : decode b_Output_addShown 1 = .ok (.invokestatic 35, 3) := by decide +kernel
theorem d_Output_addShown_4 : decode b_Output_addShown 4 = .ok (.ifCond .ne 9, 3) := by decide +kernel
theorem d_Output_addShown_7 : decode b_Output_addShown 7 = .ok (.aload_n 0, 1) := by decide +kernel
theorem d_Output_addShown_8 : decode b_Output_addShown 8 = .ok (.iload_n 1, 1) := by decide +kernel
theorem d_Output_addShown_9 : decode b_Output_addShown 9 = .ok (.invokevirtual 41, 3) := by decide +kernel
theorem d_Output_addShown_12 : decode b_Output_addShown 12 = .ok (.return_, 1) := by decide +kernel
theorem d_Output_addShown_13 : decode b_Output_addShown 13 = .ok (.iload_n 2, 1) := by decide +kernel
theorem d_Output_addShown_14 : decode b_Output_addShown 14 = .ok (.ifCond .ne 9, 3) := by decide +kernel
theorem d_Output_addShown_17 : decode b_Output_addShown 17 = .ok (.aload_n 0, 1) := by decide +kernel
theorem d_Output_addShown_18 : decode b_Output_addShown 18 = .ok (.bipush 91, 2) := by decide +kernel
theorem d_Output_addShown_20 : decode b_Output_addShown 20 = .ok (.invokevirtual 45, 3) := by decide +kernel
theorem d_Output_addShown_23 : decode b_Output_addShown 23 = .ok (.aload_n 0, 1) := by decide +kernel
theorem d_Output_addShown_24 : decode b_Output_addShown 24 = .ok (.getfield 21, 3) := by decide +kernel
theorem d_Output_addShown_27 : decode b_Output_addShown 27 = .ok (.iconst 0, 1) := by decide +kernel
theorem d_Output_addShown_28 : decode b_Output_addShown 28 = .ok (.iload_n 1, 1) := by decide +kernel
theorem d_Output_addShown_29 : decode b_Output_addShown 29 = .ok (.iastore, 1) := by decide +kernel
theorem d_Output_addShown_30 : decode b_Output_addShown 30 = .ok (.aload_n 0, 1) := by decide +kernel
theorem d_Output_addShown_31 : decode b_Output_addShown 31 = .ok (.getfield 24, 3) := by decide +kernel
theorem d_Output_addShown_34 : decode b_Output_addShown 34 = .ok (.iconst 0, 1) := by decide +kernel
theorem d_Output_addShown_35 : decode b_Output_addShown 35 = .ok (.iconst 0, 1) := by decide +kernel
theorem d_Output_addShown_36 : decode b_Output_addShown 36 = .ok (.iastore, 1) := by decide +kernel
theorem d_Output_addShown_37 : decode b_Output_addShown 37 = .ok (.iconst 1, 1) := by decide +kernel
theorem d_Output_addShown_38 : decode b_Output_addShown 38 = .ok (.istore_n 3, 1) := by decide +kernel
theorem d_Output_addShown_39 : decode b_Output_addShown 39 = .ok (.iconst 0, 1) := by decide +kernel
theorem d_Output_addShown_40 : decode b_Output_addShown 40 = .ok (.istore 4, 2) := by decide +kernel
theorem d_Output_addShown_42 : decode b_Output_addShown 42 = .ok (.iload 4, 2) := by decide +kernel
theorem d_Output_addShown_44 : decode b_Output_addShown 44 = .ok (.ldc 48, 2) := by decide +kernel
theorem d_Output_addShown_46 : decode b_Output_addShown 46 = .ok (.if_icmp .ge 147, 3) := by decide +kernel
theorem d_Output_addShown_49 : decode b_Output_addShown 49 = .ok (.iload_n 3, 1) := by decide +kernel
theorem d_Output_addShown_50 : decode b_Output_addShown 50 = .ok (.ifCond .le 143, 3) := by decide +kernel
theorem d_Output_addShown_53 : decode b_Output_addShown 53 = .ok (.aload_n 0, 1) := by decide +kernel
theorem d_Output_addShown_54 : decode b_Output_addShown 54 = .ok (.getfield 24, 3) := by decide +kernel
theorem d_Output_addShown_57 : decode b_Output_addShown 57 = .ok (.iload_n 3, 1) := by decide +kernel
theorem d_Output_addShown_58 : decode b_Output_addShown 58 = .ok (.iconst 1, 1) := by decide +kernel
theorem d_Output_addShown_59 : decode b_Output_addShown 59 = .ok (.isub, 1) := by decide +kernel
theorem d_Output_addShown_60 : decode b_Output_addShown 60 = .ok (.iaload, 1) := by decide +kernel
theorem d_Output_addShown_61 : decode b_Output_addShown 61 = .ok (.istore 5, 2) := by decide +kernel
theorem d_Output_addShown_63 : decode b_Output_addShown 63 = .ok (.aload_n 0, 1) := by decide +kernel
theorem d_Output_addShown_64 : decode b_Output_addShown 64 = .ok (.getfield 24, 3) := by decide +kernel
theorem d_Output_addShown_67 : decode b_Output_addShown 67 = .ok (.iload_n 3, 1) := by decide +kernel
theorem d_Output_addShown_68 : decode b_Output_addShown 68 = .ok (.iconst 1, 1) := by decide +kernel
theorem d_Output_addShown_69 : decode b_Output_addShown 69 = .ok (.isub, 1) := by decide +kernel
theorem d_Output_addShown_70 : decode b_Output_addShown 70 = .ok (.iload 5, 2) := by decide +kernel
theorem d_Output_addShown_72 : decode b_Output_addShown 72 = .ok (.iconst 1, 1) := by decide +kernel
theorem d_Output_addShown_73 : decode b_Output_addShown 73 = .ok (.iadd, 1) := by decide +kernel
theorem d_Output_addShown_74 : decode b_Output_addShown 74 = .ok (.iastore, 1) := by decide +kernel
theorem d_Output_addShown_75 : decode b_Output_addShown 75 = .ok (.aload_n 0, 1) := by decide +kernel
theorem d_Output_addShown_76 : decode b_Output_addShown 76 = .ok (.getfield 27, 3) := by decide +kernel
theorem d_Output_addShown_79 : decode b_Output_addShown 79 = .ok (.aload_n 0, 1) := by decide +kernel
theorem d_Output_addShown_80 : decode b_Output_addShown 80 = .ok (.getfield 21, 3) := by decide +kernel
theorem d_Output_addShown_83 : decode b_Output_addShown 83 = .ok (.iload_n 3, 1) := by decide +kernel
theorem d_Output_addShown_84 : decode b_Output_addShown 84 = .ok (.iconst 1, 1) := by decide +kernel
theorem d_Output_addShown_85 : decode b_Output_addShown 85 = .ok (.isub, 1) := by decide +kernel
theorem d_Output_addShown_86 : decode b_Output_addShown 86 = .ok (.iaload, 1) := by decide +kernel
theorem d_Output_addShown_87 : decode b_Output_addShown 87 = .ok (.iload 5, 2) := by decide +kernel
theorem d_Output_addShown_89 : decode b_Output_addShown 89 = .ok (.invokevirtual 49, 3) := by decide +kernel
theorem d_Output_addShown_92 : decode b_Output_addShown 92 = .ok (.istore 6, 2) := by decide +kernel
theorem d_Output_addShown_94 : decode b_Output_addShown 94 = .ok (.iload 6, 2) := by decide +kernel
theorem d_Output_addShown_96 : decode b_Output_addShown 96 = .ok (.ldc 53, 2) := by decide +kernel
theorem d_Output_addShown_98 : decode b_Output_addShown 98 = .ok (.if_icmp .eq 14, 3) := by decide +kernel
theorem d_Output_addShown_101 : decode b_Output_addShown 101 = .ok (.iload 5, 2) := by decide +kernel
theorem d_Output_addShown_103 : decode b_Output_addShown 103 = .ok (.ifCond .le 9, 3) := by decide +kernel
theorem d_Output_addShown_106 : decode b_Output_addShown 106 = .ok (.aload_n 0, 1) := by decide +kernel
theorem d_Output_addShown_107 : decode b_Output_addShown 107 = .ok (.bipush 32, 2) := by decide +kernel
theorem d_Output_addShown_109 : decode b_Output_addShown 109 = .ok (.invokevirtual 45, 3) := by decide +kernel
theorem d_Output_addShown_112 : decode b_Output_addShown 112 = .ok (.iload 6, 2) := by decide +kernel
theorem d_Output_addShown_114 : decode b_Output_addShown 114 = .ok (.ldc 53, 2) := by decide +kernel
theorem d_Output_addShown_116 : decode b_Output_addShown 116 = .ok (.if_icmp .ne 23, 3) := by decide +kernel
theorem d_Output_addShown_119 : decode b_Output_addShown 119 = .ok (.iinc 3 (-1), 3) := by decide +kernel
theorem d_Output_addShown_122 : decode b_Output_addShown 122 = .ok (.iload_n 3, 1) := by decide +kernel
theorem d_Output_addShown_123 : decode b_Output_addShown 123 = .ok (.ifCond .gt 7, 3) := by decide +kernel
theorem d_Output_addShown_126 : decode b_Output_addShown 126 = .ok (.iload_n 2, 1) := by decide +kernel
theorem d_Output_addShown_127 : decode b_Output_addShown 127 = .ok (.ifCond .ne 60, 3) := by decide +kernel
theorem d_Output_addShown_130 : decode b_Output_addShown 130 = .ok (.aload_n 0, 1) := by decide +kernel
theorem d_Output_addShown_131 : decode b_Output_addShown 131 = .ok (.bipush 93, 2) := by decide +kernel
theorem d_Output_addShown_133 : decode b_Output_addShown 133 = .ok (.invokevirtual 45, 3) := by decide +kernel
theorem d_Output_addShown_136 : decode b_Output_addShown 136 = .ok (.goto 51, 3) := by decide +kernel
theorem d_Output_addShown_139 : decode b_Output_addShown 139 = .ok (.iload 6, 2) := by decide +kernel
theorem d_Output_addShown_141 : decode b_Output_addShown 141 = .ok (.invokestatic 35, 3) := by decide +kernel
theorem d_Output_addShown_144 : decode b_Output_addShown 144 = .ok (.ifCond .ne 12, 3) := by decide +kernel
theorem d_Output_addShown_147 : decode b_Output_addShown 147 = .ok (.aload_n 0, 1) := by decide +kernel
theorem d_Output_addShown_148 : decode b_Output_addShown 148 = .ok (.iload 6, 2) := by decide +kernel
theorem d_Output_addShown_150 : decode b_Output_addShown 150 = .ok (.invokevirtual 41, 3) := by decide +kernel
theorem d_Output_addShown_153 : decode b_Output_addShown 153 = .ok (.goto 34, 3) := by decide +kernel
theorem d_Output_addShown_156 : decode b_Output_addShown 156 = .ok (.iload_n 3, 1) := by decide +kernel
theorem d_Output_addShown_157 : decode b_Output_addShown 157 = .ok (.sipush 700, 3) := by decide +kernel
theorem d_Output_addShown_160 : decode b_Output_addShown 160 = .ok (.if_icmp .ge 27, 3) := by decide +kernel
theorem d_Output_addShown_163 : decode b_Output_addShown 163 = .ok (.aload_n 0, 1) := by decide +kernel
theorem d_Output_addShown_164 : decode b_Output_addShown 164 = .ok (.bipush 91, 2) := by decide +kernel
theorem d_Output_addShown_166 : decode b_Output_addShown 166 = .ok (.invokevirtual 45, 3) := by decide +kernel
theorem d_Output_addShown_169 : decode b_Output_addShown 169 = .ok (.aload_n 0, 1) := by decide +kernel
theorem d_Output_addShown_170 : decode b_Output_addShown 170 = .ok (.getfield 21, 3) := by decide +kernel
theorem d_Output_addShown_173 : decode b_Output_addShown 173 = .ok (.iload_n 3, 1) := by decide +kernel
theorem d_Output_addShown_174 : decode b_Output_addShown 174 = .ok (.iload 6, 2) := by decide +kernel
theorem d_Output_addShown_176 : decode b_Output_addShown 176 = .ok (.iastore, 1) := by decide +kernel
theorem d_Output_addShown_177 : decode b_Output_addShown 177 = .ok (.aload_n 0, 1) := by decide +kernel
theorem d_Output_addShown_178 : decode b_Output_addShown 178 = .ok (.getfield 24, 3) := by decide +kernel
theorem d_Output_addShown_181 : decode b_Output_addShown 181 = .ok (.iload_n 3, 1) := by decide +kernel
theorem d_Output_addShown_182 : decode b_Output_addShown 182 = .ok (.iconst 0, 1) := by decide +kernel
theorem d_Output_addShown_183 : decode b_Output_addShown 183 = .ok (.iastore, 1) := by decide +kernel
theorem d_Output_addShown_184 : decode b_Output_addShown 184 = .ok (.iinc 3 1, 3) := by decide +kernel
theorem d_Output_addShown_187 : decode b_Output_addShown 187 = .ok (.iinc 4 1, 3) := by decide +kernel
theorem d_Output_addShown_190 : decode b_Output_addShown 190 = .ok (.goto (-148), 3) := by decide +kernel
theorem d_Output_addShown_193 : decode b_Output_addShown 193 = .ok (.return_, 1) := by decide +kernel
theorem lk_Output_35 : Cond.methodLink "TurtleWorld$Output" 35 ⟨"TurtleWorld$Heap", "isList", "(I)Z"⟩ ∈ tw_T := tw_i6 227 (by decide +kernel) (by decide +kernel)
theorem lk_Output_48 : Cond.constant "TurtleWorld$Output" 48 1000000 ∈ tw_T := tw_i7 1 (by decide +kernel) (by decide +kernel)
theorem lk_Output_49 : Cond.methodLink "TurtleWorld$Output" 49 ⟨"TurtleWorld$Heap", "member", "(II)I"⟩ ∈ tw_T := tw_i7 2 (by decide +kernel) (by decide +kernel)
theorem lk_Output_53 : Cond.constant "TurtleWorld$Output" 53 (-2147483648) ∈ tw_T := tw_i7 3 (by decide +kernel) (by decide +kernel)
theorem lk_Output_41 : Cond.methodLink "TurtleWorld$Output" 41 ⟨"TurtleWorld$Output", "addPlain", "(I)V"⟩ ∈ tw_T := tw_i6 228 (by decide +kernel) (by decide +kernel)
theorem hd_Output_addPlain : y_Output_addPlain.cls ≠ "java/lang/invoke/MethodHandle" ∧ y_Output_addPlain.cls ≠ "java/lang/invoke/VarHandle" ∧ (parseMethodDescriptor y_Output_addPlain.desc).map (fun d => d.parameters.length) = some 1 := by decide +kernel
theorem in_Output_addPlain : Cond.instanceMethod ⟨"TurtleWorld$Output", "addPlain", "(I)V"⟩ ∈ tw_T := tw_i6 230 (by decide +kernel) (by decide +kernel)
theorem sel_Output_addPlain : Cond.selects "TurtleWorld$Output" ⟨"TurtleWorld$Output", "addPlain", "(I)V"⟩ ⟨"TurtleWorld$Output", "addPlain", "(I)V"⟩ ∈ tw_T := tw_inS 69 (by decide +kernel) (by decide +kernel)
def m_Turtles_turnTo (n : Nat) (g : Nat → Nat) (i : Nat → Int32) (a : Nat → Nat → Int32) (v1 : Int32) (v2 : Int32) : Option ((Nat → Int32) × (Nat → Nat → Int32) × Int32) := if ((v2 - v2 / 30 * 30)) = ((0 : Int32)) then ob0 (m_Math_floorMod n (v1 + (v2 / 30)) (12 : Int32)) (fun r_3 => ob (m_Turtles_setPart n g i a (4 : Int32) r_3) (fun i_5 a_6 r_7 => some (i_5, a_6, (-2147483648)))) else some (i, a, (-2147483645))
set_option maxHeartbeats 4000000 in
set_option maxRecDepth 100000 in
theorem x_Turtles_turnTo (l : Launch) (dC : Nat → ClassId) (dI : Nat → Nat → Nat) (cI : ClassId) (adK adV adA u o g : Nat → Nat) (sz : Nat) (n : Nat) {i : Nat → Int32} {a : Nat → Nat → Int32} {v1 : Int32} {v2 : Int32} {i2 : Nat → Int32} {a2 : Nat → Nat → Int32} {r2 : Int32} (hm : m_Turtles_turnTo n g i a v1 v2 = some (i2, a2, r2)) : Met l y_Turtles_turnTo w_Turtles_turnTo ({ frames := 2, cells := 0, slots := 0, locals := 42 } : Room) (va_Pc [.ref ((u 5)), .int v1, .int v2] (xE dC dI cI adK adV adA u o g i a sz)) (va_Qi (xR r2) (xB dC dI cI u o g i2 a2 (va_A (TW cI u o i a g) sz)) (va_A (TW cI u o i a g) sz)) 0 0 ((va_A (TW cI u o i a g) sz)) := by
  refine Met.ofW (cc := b_Turtles_turnTo) (maxL := 3) (ret := (some .int)) (by decide) rfl ?_
  intro p e s m args below meth c s₁ B hml hv
  obtain ⟨rfl, hsz, hP, hK, hE, hD0⟩ := hv
  have hx := B.exec
  have hb := B.bytes
  have hr := B.returns
  have hts := atoms_spec (ws := w_Turtles_turnTo) B.pre
  have htt : ∀ w ∈ tw_T, w.before _ s = true := fun w h => hts w (List.mem_cons_of_mem _ h)
  have hown : s.vm.findClass R_Turtles = some m.cls := findClass_of_methodNamed B.named
  have hlocks := B.notSynchronized
  subst hsz
  have hD := hD0.self (sz := s.heap.size)
  generalize hAe : (va_A (TW cI u o i a g) s.heap.size) = A at hD hE ⊢
  have hA : ∀ q : Nat, s.heap.size ≤ q → A q := fun q h => by rw [← hAe]; exact Or.inr h
  have hS : va_S A s.heap s.heap [] := va_S.rf
  have hl := lv_entry ([.ref ((u 5)), .int v1, .int v2]) (n := 3) (Nat.le_of_ble_eq_true rfl)
  rw [lg_entry_eq]
  generalize (lg_sl ([.ref ((u 5)), .int v1, .int v2]) ++ List.replicate (3 - (lg_sl ([.ref ((u 5)), .int v1, .int v2])).length) Slot.unset).toArray = ls at hl ⊢
  have hl : lv_has ls 3 [(0, .ref ((u 5))), (1, .int v1), (2, .int v2)] := hl
  rw [m_Turtles_turnTo] at hm
  refine lv_iload_n hx hb d_Turtles_turnTo_0 rfl (lv_at hl 2 rfl) ?_
  refine lv_bipush (v := 30) hx hb d_Turtles_turnTo_1 (by decide) ?_
  refine lv_irem hx hb d_Turtles_turnTo_3 (by decide) ?_
  refine lv_if_eq (tgt := 10) hx hb d_Turtles_turnTo_4 (by decide) (fun c_1 => ?_) (fun c_1 => ?_)
  · replace hm := if_t c_1 hm
    refine lv_aload_n hx hb d_Turtles_turnTo_10 rfl (lv_at hl 0 rfl) ?_
    refine lv_iconst (v := 4) hx hb d_Turtles_turnTo_11 (by decide) ?_
    refine lv_iload_n hx hb d_Turtles_turnTo_12 rfl (lv_at hl 1 rfl) ?_
    refine lv_iload_n hx hb d_Turtles_turnTo_13 rfl (lv_at hl 2 rfl) ?_
    refine lv_bipush (v := 30) hx hb d_Turtles_turnTo_14 (by decide) ?_
    refine lv_idiv hx hb d_Turtles_turnTo_16 (by decide) ?_
    refine lv_iadd hx hb d_Turtles_turnTo_17 ?_
    refine lv_bipush (v := 12) hx hb d_Turtles_turnTo_18 (by decide) ?_
    obtain ⟨r_3, h_2, hm⟩ := ob0_some hm
    have hFc := x_free0 hS hA
    refine va_calli (va_runS (As := [.int (v1 + (v2 / 30)), .int 12]) (rest := [.int 4, .ref ((u 5))]) ⟨hx, hb, hml, hown, hts⟩ (x_Math_floorMod l s.heap.size n h_2) (va_cwS 2 hts (tw_GS tw_cons cw_Math_floorMod lk_Turtles_63 st_Math_floorMod ini_Math) rfl rfl rfl hd_Math_floorMod ⟨Nat.le_of_ble_eq_true rfl, Nat.le_of_ble_eq_true rfl⟩) xpS0 rfl rfl hl.1 rfl (lv_room (Nat.le_of_ble_eq_true rfl)) d_Turtles_turnTo_20 ⟨Nat.le_of_ble_eq_true rfl, Nat.le_of_ble_eq_true rfl⟩) hS (fun q _ h => hFc q h) hFc (fun r9 u9 t9 H locs ht hvm e9 hB hz1 hk1 hS => ?_)
    have e9 : r_3 = r9 := e9
    subst e9
    replace hP := x_keep hP hk1
    clear hFc hk1 hz1 hvm hB ht
    obtain ⟨i_5, a_6, r_7, h_4, hm⟩ := ob_some hm
    have hFc := x_free hD hS hA
    refine va_callv (va_runV (As := [.int 4, .int r_3]) (rest := []) ⟨hx, hb, hml, hown, hts⟩ (x_Turtles_setPart l dC dI cI adK adV adA u o g H.size n h_4) (cwV 2 hts (tw_GV tw_cons cw_Turtles_setPart lk_Turtles_122 in_Turtles_setPart sel_Turtles_setPart ini_Turtles) rfl rfl rfl ⟨rfl, hd_Turtles_setPart⟩ ⟨Nat.le_of_ble_eq_true rfl, Nat.le_of_ble_eq_true rfl⟩) (xpV hK hP hD hS hE hFc xo_5 rfl) rfl rfl hl.1 rfl (lv_room (Nat.le_of_ble_eq_true rfl)) d_Turtles_turnTo_23 ⟨Nat.le_of_ble_eq_true rfl, Nat.le_of_ble_eq_true rfl⟩) hS (fun q _ h => hFc q h) hFc (fun u9 t9 H locs ht hvm e9 hB hz1 hk1 hS => ?_)
    obtain ⟨hP, hD⟩ := x_aft hB ht hFc
    clear hFc hk1 hz1 hvm hB ht
    refine lv_ldc (v := (-2147483648)) hx hb hown (htt _ lk_Turtles_83) d_Turtles_turnTo_26 ?_
    obtain ⟨e1i, e1a, e3⟩ := re3 hm
    obtain ⟨hP, hD⟩ := x_eq e1i e1a hP hD
    exact W.iret hx hb hr (fun t9 ht hW => ⟨⟨_, (), rfl, e3.symm, by rw [ht]; exact hP, hD⟩, hS.F ht⟩) hS.2.2 d_Turtles_turnTo_28
  · replace hm := if_f c_1 hm
    refine lv_ldc (v := (-2147483645)) hx hb hown (htt _ lk_Turtles_62) d_Turtles_turnTo_7 ?_
    obtain ⟨e1i, e1a, e3⟩ := re3 hm
    obtain ⟨hP, hD⟩ := x_eq e1i e1a hP hD
    exact W.iret hx hb hr (fun t9 ht hW => ⟨⟨_, (), rfl, e3.symm, by rw [ht]; exact hP, hD⟩, hS.F ht⟩) hS.2.2 d_Turtles_turnTo_9

def m_Turtles_lower (n : Nat) (g : Nat → Nat) (i : Nat → Int32) (a : Nat → Nat → Int32) (v1 : Int32) : Option ((Nat → Int32) × (Nat → Nat → Int32) × Int32) := if v1 = ((0 : Int32)) then ob (m_Turtles_setPart n g i a (6 : Int32) (0 : Int32)) (fun i_3 a_4 r_5 => some (i_3, a_4, (-2147483648))) else ob (m_Turtles_setPart n g i a (6 : Int32) (1 : Int32)) (fun i_7 a_8 r_9 => some (i_7, a_8, (-2147483648)))
set_option maxHeartbeats 4000000 in
set_option maxRecDepth 100000 in
theorem x_Turtles_lower (l : Launch) (dC : Nat → ClassId) (dI : Nat → Nat → Nat) (cI : ClassId) (adK adV adA u o g : Nat → Nat) (sz : Nat) (n : Nat) {i : Nat → Int32} {a : Nat → Nat → Int32} {v1 : Int32} {i2 : Nat → Int32} {a2 : Nat → Nat → Int32} {r2 : Int32} (hm : m_Turtles_lower n g i a v1 = some (i2, a2, r2)) : Met l y_Turtles_lower w_Turtles_lower ({ frames := 2, cells := 0, slots := 0, locals := 42 } : Room) (va_Pc [.ref ((u 5)), .int v1] (xE dC dI cI adK adV adA u o g i a sz)) (va_Qi (xR r2) (xB dC dI cI u o g i2 a2 (va_A (TW cI u o i a g) sz)) (va_A (TW cI u o i a g) sz)) 0 0 ((va_A (TW cI u o i a g) sz)) := by
  refine Met.ofW (cc := b_Turtles_lower) (maxL := 2) (ret := (some .int)) (by decide) rfl ?_
  intro p e s m args below meth c s₁ B hml hv
  obtain ⟨rfl, hsz, hP, hK, hE, hD0⟩ := hv
  have hx := B.exec
  have hb := B.bytes
  have hr := B.returns
  have hts := atoms_spec (ws := w_Turtles_lower) B.pre
  have htt : ∀ w ∈ tw_T, w.before _ s = true := fun w h => hts w (List.mem_cons_of_mem _ h)
  have hown : s.vm.findClass R_Turtles = some m.cls := findClass_of_methodNamed B.named
  have hlocks := B.notSynchronized
  subst hsz
  have hD := hD0.self (sz := s.heap.size)
  generalize hAe : (va_A (TW cI u o i a g) s.heap.size) = A at hD hE ⊢
  have hA : ∀ q : Nat, s.heap.size ≤ q → A q := fun q h => by rw [← hAe]; exact Or.inr h
  have hS : va_S A s.heap s.heap [] := va_S.rf
  have hl := lv_entry ([.ref ((u 5)), .int v1]) (n := 2) (Nat.le_of_ble_eq_true rfl)
  rw [lg_entry_eq]
  generalize (lg_sl ([.ref ((u 5)), .int v1]) ++ List.replicate (2 - (lg_sl ([.ref ((u 5)), .int v1])).length) Slot.unset).toArray = ls at hl ⊢
  have hl : lv_has ls 2 [(0, .ref ((u 5))), (1, .int v1)] := hl
  rw [m_Turtles_lower] at hm
  refine lv_aload_n hx hb d_Turtles_lower_0 rfl (lv_at hl 0 rfl) ?_
  refine lv_bipush (v := 6) hx hb d_Turtles_lower_1 (by decide) ?_
  refine lv_iload_n hx hb d_Turtles_lower_3 rfl (lv_at hl 1 rfl) ?_
  refine lv_if_eq (tgt := 11) hx hb d_Turtles_lower_4 (by decide) (fun c_1 => ?_) (fun c_1 => ?_)
  · replace hm := if_t c_1 hm
    refine lv_iconst (v := 0) hx hb d_Turtles_lower_11 (by decide) ?_
    obtain ⟨i_3, a_4, r_5, h_2, hm⟩ := ob_some hm
    have hFc := x_free hD hS hA
    refine va_callv (va_runV (As := [.int 6, .int 0]) (rest := []) ⟨hx, hb, hml, hown, hts⟩ (x_Turtles_setPart l dC dI cI adK adV adA u o g s.heap.size n h_2) (cwV 2 hts (tw_GV tw_cons cw_Turtles_setPart lk_Turtles_122 in_Turtles_setPart sel_Turtles_setPart ini_Turtles) rfl rfl rfl ⟨rfl, hd_Turtles_setPart⟩ ⟨Nat.le_of_ble_eq_true rfl, Nat.le_of_ble_eq_true rfl⟩) (xpV hK hP hD hS hE hFc xo_5 rfl) rfl rfl hl.1 rfl (lv_room (Nat.le_of_ble_eq_true rfl)) d_Turtles_lower_12 ⟨Nat.le_of_ble_eq_true rfl, Nat.le_of_ble_eq_true rfl⟩) hS (fun q _ h => hFc q h) hFc (fun u9 t9 H locs ht hvm e9 hB hz1 hk1 hS => ?_)
    obtain ⟨hP, hD⟩ := x_aft hB ht hFc
    clear hFc hk1 hz1 hvm hB ht
    refine lv_ldc (v := (-2147483648)) hx hb hown (htt _ lk_Turtles_83) d_Turtles_lower_15 ?_
    obtain ⟨e1i, e1a, e3⟩ := re3 hm
    obtain ⟨hP, hD⟩ := x_eq e1i e1a hP hD
    exact W.iret hx hb hr (fun t9 ht hW => ⟨⟨_, (), rfl, e3.symm, by rw [ht]; exact hP, hD⟩, hS.F ht⟩) hS.2.2 d_Turtles_lower_17
  · replace hm := if_f c_1 hm
    refine lv_iconst (v := 1) hx hb d_Turtles_lower_7 (by decide) ?_
    refine lv_goto (tgt := 12) hx hb d_Turtles_lower_8 (by decide) ?_
    obtain ⟨i_7, a_8, r_9, h_6, hm⟩ := ob_some hm
    have hFc := x_free hD hS hA
    refine va_callv (va_runV (As := [.int 6, .int 1]) (rest := []) ⟨hx, hb, hml, hown, hts⟩ (x_Turtles_setPart l dC dI cI adK adV adA u o g s.heap.size n h_6) (cwV 2 hts (tw_GV tw_cons cw_Turtles_setPart lk_Turtles_122 in_Turtles_setPart sel_Turtles_setPart ini_Turtles) rfl rfl rfl ⟨rfl, hd_Turtles_setPart⟩ ⟨Nat.le_of_ble_eq_true rfl, Nat.le_of_ble_eq_true rfl⟩) (xpV hK hP hD hS hE hFc xo_5 rfl) rfl rfl hl.1 rfl (lv_room (Nat.le_of_ble_eq_true rfl)) d_Turtles_lower_12 ⟨Nat.le_of_ble_eq_true rfl, Nat.le_of_ble_eq_true rfl⟩) hS (fun q _ h => hFc q h) hFc (fun u9 t9 H locs ht hvm e9 hB hz1 hk1 hS => ?_)
    obtain ⟨hP, hD⟩ := x_aft hB ht hFc
    clear hFc hk1 hz1 hvm hB ht
    refine lv_ldc (v := (-2147483648)) hx hb hown (htt _ lk_Turtles_83) d_Turtles_lower_15 ?_
    obtain ⟨e1i, e1a, e3⟩ := re3 hm
    obtain ⟨hP, hD⟩ := x_eq e1i e1a hP hD
    exact W.iret hx hb hr (fun t9 ht hW => ⟨⟨_, (), rfl, e3.symm, by rw [ht]; exact hP, hD⟩, hS.F ht⟩) hS.2.2 d_Turtles_lower_17

def m_Turtles_takePen (n : Nat) (g : Nat → Nat) (i : Nat → Int32) (a : Nat → Nat → Int32) (v1 : Int32) : Option ((Nat → Int32) × (Nat → Nat → Int32) × Int32) := if v1 < ((0 : Int32)) then some (i, a, (-2147483645)) else if v1 ≤ ((7 : Int32)) then ob (m_Turtles_setPart n g i a (5 : Int32) v1) (fun i_4 a_5 r_6 => some (i_4, a_5, (-2147483648))) else some (i, a, (-2147483645))
set_option maxHeartbeats 4000000 in
set_option maxRecDepth 100000 in
theorem x_Turtles_takePen (l : Launch) (dC : Nat → ClassId) (dI : Nat → Nat → Nat) (cI : ClassId) (adK adV adA u o g : Nat → Nat) (sz : Nat) (n : Nat) {i : Nat → Int32} {a : Nat → Nat → Int32} {v1 : Int32} {i2 : Nat → Int32} {a2 : Nat → Nat → Int32} {r2 : Int32} (hm : m_Turtles_takePen n g i a v1 = some (i2, a2, r2)) : Met l y_Turtles_takePen w_Turtles_takePen ({ frames := 2, cells := 0, slots := 0, locals := 42 } : Room) (va_Pc [.ref ((u 5)), .int v1] (xE dC dI cI adK adV adA u o g i a sz)) (va_Qi (xR r2) (xB dC dI cI u o g i2 a2 (va_A (TW cI u o i a g) sz)) (va_A (TW cI u o i a g) sz)) 0 0 ((va_A (TW cI u o i a g) sz)) := by
  refine Met.ofW (cc := b_Turtles_takePen) (maxL := 2) (ret := (some .int)) (by decide) rfl ?_
  intro p e s m args below meth c s₁ B hml hv
  obtain ⟨rfl, hsz, hP, hK, hE, hD0⟩ := hv
  have hx := B.exec
  have hb := B.bytes
  have hr := B.returns
  have hts := atoms_spec (ws := w_Turtles_takePen) B.pre
  have htt : ∀ w ∈ tw_T, w.before _ s = true := fun w h => hts w (List.mem_cons_of_mem _ h)
  have hown : s.vm.findClass R_Turtles = some m.cls := findClass_of_methodNamed B.named
  have hlocks := B.notSynchronized
  subst hsz
  have hD := hD0.self (sz := s.heap.size)
  generalize hAe : (va_A (TW cI u o i a g) s.heap.size) = A at hD hE ⊢
  have hA : ∀ q : Nat, s.heap.size ≤ q → A q := fun q h => by rw [← hAe]; exact Or.inr h
  have hS : va_S A s.heap s.heap [] := va_S.rf
  have hl := lv_entry ([.ref ((u 5)), .int v1]) (n := 2) (Nat.le_of_ble_eq_true rfl)
  rw [lg_entry_eq]
  generalize (lg_sl ([.ref ((u 5)), .int v1]) ++ List.replicate (2 - (lg_sl ([.ref ((u 5)), .int v1])).length) Slot.unset).toArray = ls at hl ⊢
  have hl : lv_has ls 2 [(0, .ref ((u 5))), (1, .int v1)] := hl
  rw [m_Turtles_takePen] at hm
  refine lv_iload_n hx hb d_Turtles_takePen_0 rfl (lv_at hl 1 rfl) ?_
  refine lv_if_lt (tgt := 10) hx hb d_Turtles_takePen_1 (by decide) (fun c_1 => ?_) (fun c_1 => ?_)
  · replace hm := if_t c_1 hm
    refine lv_ldc (v := (-2147483645)) hx hb hown (htt _ lk_Turtles_62) d_Turtles_takePen_10 ?_
    obtain ⟨e1i, e1a, e3⟩ := re3 hm
    obtain ⟨hP, hD⟩ := x_eq e1i e1a hP hD
    exact W.iret hx hb hr (fun t9 ht hW => ⟨⟨_, (), rfl, e3.symm, by rw [ht]; exact hP, hD⟩, hS.F ht⟩) hS.2.2 d_Turtles_takePen_12
  · replace hm := if_f c_1 hm
    refine lv_iload_n hx hb d_Turtles_takePen_4 rfl (lv_at hl 1 rfl) ?_
    refine lv_bipush (v := 7) hx hb d_Turtles_takePen_5 (by decide) ?_
    refine lv_icmp_le (tgt := 13) hx hb d_Turtles_takePen_7 (by decide) (fun c_2 => ?_) (fun c_2 => ?_)
    · replace hm := if_t c_2 hm
      refine lv_aload_n hx hb d_Turtles_takePen_13 rfl (lv_at hl 0 rfl) ?_
      refine lv_iconst (v := 5) hx hb d_Turtles_takePen_14 (by decide) ?_
      refine lv_iload_n hx hb d_Turtles_takePen_15 rfl (lv_at hl 1 rfl) ?_
      obtain ⟨i_4, a_5, r_6, h_3, hm⟩ := ob_some hm
      have hFc := x_free hD hS hA
      refine va_callv (va_runV (As := [.int 5, .int v1]) (rest := []) ⟨hx, hb, hml, hown, hts⟩ (x_Turtles_setPart l dC dI cI adK adV adA u o g s.heap.size n h_3) (cwV 2 hts (tw_GV tw_cons cw_Turtles_setPart lk_Turtles_122 in_Turtles_setPart sel_Turtles_setPart ini_Turtles) rfl rfl rfl ⟨rfl, hd_Turtles_setPart⟩ ⟨Nat.le_of_ble_eq_true rfl, Nat.le_of_ble_eq_true rfl⟩) (xpV hK hP hD hS hE hFc xo_5 rfl) rfl rfl hl.1 rfl (lv_room (Nat.le_of_ble_eq_true rfl)) d_Turtles_takePen_16 ⟨Nat.le_of_ble_eq_true rfl, Nat.le_of_ble_eq_true rfl⟩) hS (fun q _ h => hFc q h) hFc (fun u9 t9 H locs ht hvm e9 hB hz1 hk1 hS => ?_)
      obtain ⟨hP, hD⟩ := x_aft hB ht hFc
      clear hFc hk1 hz1 hvm hB ht
      refine lv_ldc (v := (-2147483648)) hx hb hown (htt _ lk_Turtles_83) d_Turtles_takePen_19 ?_
      obtain ⟨e1i, e1a, e3⟩ := re3 hm
      obtain ⟨hP, hD⟩ := x_eq e1i e1a hP hD
      exact W.iret hx hb hr (fun t9 ht hW => ⟨⟨_, (), rfl, e3.symm, by rw [ht]; exact hP, hD⟩, hS.F ht⟩) hS.2.2 d_Turtles_takePen_21
    · replace hm := if_f c_2 hm
      refine lv_ldc (v := (-2147483645)) hx hb hown (htt _ lk_Turtles_62) d_Turtles_takePen_10 ?_
      obtain ⟨e1i, e1a, e3⟩ := re3 hm
      obtain ⟨hP, hD⟩ := x_eq e1i e1a hP hD
      exact W.iret hx hb hr (fun t9 ht hW => ⟨⟨_, (), rfl, e3.symm, by rw [ht]; exact hP, hD⟩, hS.F ht⟩) hS.2.2 d_Turtles_takePen_12

def m_Turtles_putAt (n : Nat) (g : Nat → Nat) (i : Nat → Int32) (a : Nat → Nat → Int32) (v1 : Int32) (v2 : Int32) : Option ((Nat → Int32) × (Nat → Nat → Int32) × Int32) := if v1 < ((-30000 : Int32)) then some (i, a, (-2147483645)) else if ((30000 : Int32)) < v1 then some (i, a, (-2147483645)) else if v2 < ((-30000 : Int32)) then some (i, a, (-2147483645)) else if v2 ≤ ((30000 : Int32)) then ob (m_Turtles_setPart n g i a (0 : Int32) (2 * v1)) (fun i_6 a_7 r_8 => ob (m_Turtles_setPart n g i_6 a_7 (1 : Int32) (0 : Int32)) (fun i_10 a_11 r_12 => ob (m_Turtles_setPart n g i_10 a_11 (2 : Int32) (2 * v2)) (fun i_14 a_15 r_16 => ob (m_Turtles_setPart n g i_14 a_15 (3 : Int32) (0 : Int32)) (fun i_18 a_19 r_20 => some (i_18, a_19, (-2147483648)))))) else some (i, a, (-2147483645))
set_option maxHeartbeats 4000000 in
set_option maxRecDepth 100000 in
theorem x_Turtles_putAt (l : Launch) (dC : Nat → ClassId) (dI : Nat → Nat → Nat) (cI : ClassId) (adK adV adA u o g : Nat → Nat) (sz : Nat) (n : Nat) {i : Nat → Int32} {a : Nat → Nat → Int32} {v1 : Int32} {v2 : Int32} {i2 : Nat → Int32} {a2 : Nat → Nat → Int32} {r2 : Int32} (hm : m_Turtles_putAt n g i a v1 v2 = some (i2, a2, r2)) : Met l y_Turtles_putAt w_Turtles_putAt ({ frames := 2, cells := 0, slots := 0, locals := 42 } : Room) (va_Pc [.ref ((u 5)), .int v1, .int v2] (xE dC dI cI adK adV adA u o g i a sz)) (va_Qi (xR r2) (xB dC dI cI u o g i2 a2 (va_A (TW cI u o i a g) sz)) (va_A (TW cI u o i a g) sz)) 0 0 ((va_A (TW cI u o i a g) sz)) := by
  refine Met.ofW (cc := b_Turtles_putAt) (maxL := 3) (ret := (some .int)) (by decide) rfl ?_
  intro p e s m args below meth c s₁ B hml hv
  obtain ⟨rfl, hsz, hP, hK, hE, hD0⟩ := hv
  have hx := B.exec
  have hb := B.bytes
  have hr := B.returns
  have hts := atoms_spec (ws := w_Turtles_putAt) B.pre
  have htt : ∀ w ∈ tw_T, w.before _ s = true := fun w h => hts w (List.mem_cons_of_mem _ h)
  have hown : s.vm.findClass R_Turtles = some m.cls := findClass_of_methodNamed B.named
  have hlocks := B.notSynchronized
  subst hsz
  have hD := hD0.self (sz := s.heap.size)
  generalize hAe : (va_A (TW cI u o i a g) s.heap.size) = A at hD hE ⊢
  have hA : ∀ q : Nat, s.heap.size ≤ q → A q := fun q h => by rw [← hAe]; exact Or.inr h
  have hS : va_S A s.heap s.heap [] := va_S.rf
  have hl := lv_entry ([.ref ((u 5)), .int v1, .int v2]) (n := 3) (Nat.le_of_ble_eq_true rfl)
  rw [lg_entry_eq]
  generalize (lg_sl ([.ref ((u 5)), .int v1, .int v2]) ++ List.replicate (3 - (lg_sl ([.ref ((u 5)), .int v1, .int v2])).length) Slot.unset).toArray = ls at hl ⊢
  have hl : lv_has ls 3 [(0, .ref ((u 5))), (1, .int v1), (2, .int v2)] := hl
  rw [m_Turtles_putAt] at hm
  refine lv_iload_n hx hb d_Turtles_putAt_0 rfl (lv_at hl 1 rfl) ?_
  refine lv_sipush (v := -30000) hx hb d_Turtles_putAt_1 (by decide) ?_
  refine lv_icmp_lt (tgt := 28) hx hb d_Turtles_putAt_4 (by decide) (fun c_1 => ?_) (fun c_1 => ?_)
  · replace hm := if_t c_1 hm
    refine lv_ldc (v := (-2147483645)) hx hb hown (htt _ lk_Turtles_62) d_Turtles_putAt_28 ?_
    obtain ⟨e1i, e1a, e3⟩ := re3 hm
    obtain ⟨hP, hD⟩ := x_eq e1i e1a hP hD
    exact W.iret hx hb hr (fun t9 ht hW => ⟨⟨_, (), rfl, e3.symm, by rw [ht]; exact hP, hD⟩, hS.F ht⟩) hS.2.2 d_Turtles_putAt_30
  · replace hm := if_f c_1 hm
    refine lv_iload_n hx hb d_Turtles_putAt_7 rfl (lv_at hl 1 rfl) ?_
    refine lv_sipush (v := 30000) hx hb d_Turtles_putAt_8 (by decide) ?_
    refine lv_icmp_gt (tgt := 28) hx hb d_Turtles_putAt_11 (by decide) (fun c_2 => ?_) (fun c_2 => ?_)
    · replace hm := if_t c_2 hm
      refine lv_ldc (v := (-2147483645)) hx hb hown (htt _ lk_Turtles_62) d_Turtles_putAt_28 ?_
      obtain ⟨e1i, e1a, e3⟩ := re3 hm
      obtain ⟨hP, hD⟩ := x_eq e1i e1a hP hD
      exact W.iret hx hb hr (fun t9 ht hW => ⟨⟨_, (), rfl, e3.symm, by rw [ht]; exact hP, hD⟩, hS.F ht⟩) hS.2.2 d_Turtles_putAt_30
    · replace hm := if_f c_2 hm
      refine lv_iload_n hx hb d_Turtles_putAt_14 rfl (lv_at hl 2 rfl) ?_
      refine lv_sipush (v := -30000) hx hb d_Turtles_putAt_15 (by decide) ?_
      refine lv_icmp_lt (tgt := 28) hx hb d_Turtles_putAt_18 (by decide) (fun c_3 => ?_) (fun c_3 => ?_)
      · replace hm := if_t c_3 hm
        refine lv_ldc (v := (-2147483645)) hx hb hown (htt _ lk_Turtles_62) d_Turtles_putAt_28 ?_
        obtain ⟨e1i, e1a, e3⟩ := re3 hm
        obtain ⟨hP, hD⟩ := x_eq e1i e1a hP hD
        exact W.iret hx hb hr (fun t9 ht hW => ⟨⟨_, (), rfl, e3.symm, by rw [ht]; exact hP, hD⟩, hS.F ht⟩) hS.2.2 d_Turtles_putAt_30
      · replace hm := if_f c_3 hm
        refine lv_iload_n hx hb d_Turtles_putAt_21 rfl (lv_at hl 2 rfl) ?_
        refine lv_sipush (v := 30000) hx hb d_Turtles_putAt_22 (by decide) ?_
        refine lv_icmp_le (tgt := 31) hx hb d_Turtles_putAt_25 (by decide) (fun c_4 => ?_) (fun c_4 => ?_)
        · replace hm := if_t c_4 hm
          refine lv_aload_n hx hb d_Turtles_putAt_31 rfl (lv_at hl 0 rfl) ?_
          refine lv_iconst (v := 0) hx hb d_Turtles_putAt_32 (by decide) ?_
          refine lv_iconst (v := 2) hx hb d_Turtles_putAt_33 (by decide) ?_
          refine lv_iload_n hx hb d_Turtles_putAt_34 rfl (lv_at hl 1 rfl) ?_
          refine lv_imul hx hb d_Turtles_putAt_35 ?_
          obtain ⟨i_6, a_7, r_8, h_5, hm⟩ := ob_some hm
          have hFc := x_free hD hS hA
          refine va_callv (va_runV (As := [.int 0, .int (2 * v1)]) (rest := []) ⟨hx, hb, hml, hown, hts⟩ (x_Turtles_setPart l dC dI cI adK adV adA u o g s.heap.size n h_5) (cwV 2 hts (tw_GV tw_cons cw_Turtles_setPart lk_Turtles_122 in_Turtles_setPart sel_Turtles_setPart ini_Turtles) rfl rfl rfl ⟨rfl, hd_Turtles_setPart⟩ ⟨Nat.le_of_ble_eq_true rfl, Nat.le_of_ble_eq_true rfl⟩) (xpV hK hP hD hS hE hFc xo_5 rfl) rfl rfl hl.1 rfl (lv_room (Nat.le_of_ble_eq_true rfl)) d_Turtles_putAt_36 ⟨Nat.le_of_ble_eq_true rfl, Nat.le_of_ble_eq_true rfl⟩) hS (fun q _ h => hFc q h) hFc (fun u9 t9 H locs ht hvm e9 hB hz1 hk1 hS => ?_)
          obtain ⟨hP, hD⟩ := x_aft hB ht hFc
          clear hFc hk1 hz1 hvm hB ht
          refine lv_aload_n hx hb d_Turtles_putAt_39 rfl (lv_at hl 0 rfl) ?_
          refine lv_iconst (v := 1) hx hb d_Turtles_putAt_40 (by decide) ?_
          refine lv_iconst (v := 0) hx hb d_Turtles_putAt_41 (by decide) ?_
          obtain ⟨i_10, a_11, r_12, h_9, hm⟩ := ob_some hm
          have hFc := x_free hD hS hA
          refine va_callv (va_runV (As := [.int 1, .int 0]) (rest := []) ⟨hx, hb, hml, hown, hts⟩ (x_Turtles_setPart l dC dI cI adK adV adA u o g H.size n h_9) (cwV 2 hts (tw_GV tw_cons cw_Turtles_setPart lk_Turtles_122 in_Turtles_setPart sel_Turtles_setPart ini_Turtles) rfl rfl rfl ⟨rfl, hd_Turtles_setPart⟩ ⟨Nat.le_of_ble_eq_true rfl, Nat.le_of_ble_eq_true rfl⟩) (xpV hK hP hD hS hE hFc xo_5 rfl) rfl rfl hl.1 rfl (lv_room (Nat.le_of_ble_eq_true rfl)) d_Turtles_putAt_42 ⟨Nat.le_of_ble_eq_true rfl, Nat.le_of_ble_eq_true rfl⟩) hS (fun q _ h => hFc q h) hFc (fun u9 t9 H locs ht hvm e9 hB hz1 hk1 hS => ?_)
          obtain ⟨hP, hD⟩ := x_aft hB ht hFc
          clear hFc hk1 hz1 hvm hB ht
          refine lv_aload_n hx hb d_Turtles_putAt_45 rfl (lv_at hl 0 rfl) ?_
          refine lv_iconst (v := 2) hx hb d_Turtles_putAt_46 (by decide) ?_
          refine lv_iconst (v := 2) hx hb d_Turtles_putAt_47 (by decide) ?_
          refine lv_iload_n hx hb d_Turtles_putAt_48 rfl (lv_at hl 2 rfl) ?_
          refine lv_imul hx hb d_Turtles_putAt_49 ?_
          obtain ⟨i_14, a_15, r_16, h_13, hm⟩ := ob_some hm
          have hFc := x_free hD hS hA
          refine va_callv (va_runV (As := [.int 2, .int (2 * v2)]) (rest := []) ⟨hx, hb, hml, hown, hts⟩ (x_Turtles_setPart l dC dI cI adK adV adA u o g H.size n h_13) (cwV 2 hts (tw_GV tw_cons cw_Turtles_setPart lk_Turtles_122 in_Turtles_setPart sel_Turtles_setPart ini_Turtles) rfl rfl rfl ⟨rfl, hd_Turtles_setPart⟩ ⟨Nat.le_of_ble_eq_true rfl, Nat.le_of_ble_eq_true rfl⟩) (xpV hK hP hD hS hE hFc xo_5 rfl) rfl rfl hl.1 rfl (lv_room (Nat.le_of_ble_eq_true rfl)) d_Turtles_putAt_50 ⟨Nat.le_of_ble_eq_true rfl, Nat.le_of_ble_eq_true rfl⟩) hS (fun q _ h => hFc q h) hFc (fun u9 t9 H locs ht hvm e9 hB hz1 hk1 hS => ?_)
          obtain ⟨hP, hD⟩ := x_aft hB ht hFc
          clear hFc hk1 hz1 hvm hB ht
          refine lv_aload_n hx hb d_Turtles_putAt_53 rfl (lv_at hl 0 rfl) ?_
          refine lv_iconst (v := 3) hx hb d_Turtles_putAt_54 (by decide) ?_
          refine lv_iconst (v := 0) hx hb d_Turtles_putAt_55 (by decide) ?_
          obtain ⟨i_18, a_19, r_20, h_17, hm⟩ := ob_some hm
          have hFc := x_free hD hS hA
          refine va_callv (va_runV (As := [.int 3, .int 0]) (rest := []) ⟨hx, hb, hml, hown, hts⟩ (x_Turtles_setPart l dC dI cI adK adV adA u o g H.size n h_17) (cwV 2 hts (tw_GV tw_cons cw_Turtles_setPart lk_Turtles_122 in_Turtles_setPart sel_Turtles_setPart ini_Turtles) rfl rfl rfl ⟨rfl, hd_Turtles_setPart⟩ ⟨Nat.le_of_ble_eq_true rfl, Nat.le_of_ble_eq_true rfl⟩) (xpV hK hP hD hS hE hFc xo_5 rfl) rfl rfl hl.1 rfl (lv_room (Nat.le_of_ble_eq_true rfl)) d_Turtles_putAt_56 ⟨Nat.le_of_ble_eq_true rfl, Nat.le_of_ble_eq_true rfl⟩) hS (fun q _ h => hFc q h) hFc (fun u9 t9 H locs ht hvm e9 hB hz1 hk1 hS => ?_)
          obtain ⟨hP, hD⟩ := x_aft hB ht hFc
          clear hFc hk1 hz1 hvm hB ht
          refine lv_ldc (v := (-2147483648)) hx hb hown (htt _ lk_Turtles_83) d_Turtles_putAt_59 ?_
          obtain ⟨e1i, e1a, e3⟩ := re3 hm
          obtain ⟨hP, hD⟩ := x_eq e1i e1a hP hD
          exact W.iret hx hb hr (fun t9 ht hW => ⟨⟨_, (), rfl, e3.symm, by rw [ht]; exact hP, hD⟩, hS.F ht⟩) hS.2.2 d_Turtles_putAt_61
        · replace hm := if_f c_4 hm
          refine lv_ldc (v := (-2147483645)) hx hb hown (htt _ lk_Turtles_62) d_Turtles_putAt_28 ?_
          obtain ⟨e1i, e1a, e3⟩ := re3 hm
          obtain ⟨hP, hD⟩ := x_eq e1i e1a hP hD
          exact W.iret hx hb hr (fun t9 ht hW => ⟨⟨_, (), rfl, e3.symm, by rw [ht]; exact hP, hD⟩, hS.F ht⟩) hS.2.2 d_Turtles_putAt_30

def m_Turtles_floorOf (n : Nat) (g : Nat → Nat) (i : Nat → Int32) (a : Nat → Nat → Int32) (v1 : Int32) : Option (Int32) := ob0 (m_Turtles_part n g i a (i 17) (2 * v1)) (fun r_2 => ob0 (m_Turtles_part n g i a (i 17) ((2 * v1) + 1)) (fun r_4 => ob0 (m_Turtles_floorHalf n r_2.toInt64 r_4.toInt64) (fun r_6 => some r_6.toInt32)))
set_option maxHeartbeats 4000000 in
set_option maxRecDepth 100000 in
theorem x_Turtles_floorOf (l : Launch) (dC : Nat → ClassId) (dI : Nat → Nat → Nat) (cI : ClassId) (adK adV adA u o g : Nat → Nat) (sz : Nat) (n : Nat) {i : Nat → Int32} {a : Nat → Nat → Int32} {v1 : Int32} {r2 : Int32} (hm : m_Turtles_floorOf n g i a v1 = some r2) : Met l y_Turtles_floorOf w_Turtles_floorOf ({ frames := 2, cells := 0, slots := 0, locals := 50 } : Room) (va_Pc [.ref ((u 5)), .int v1] (xEr dC dI cI adK adV adA u o g i a sz)) (va_Qi (xR r2) xT (xN sz)) 0 0 (xN sz) := by
  refine Met.ofW (cc := b_Turtles_floorOf) (maxL := 2) (ret := (some .int)) (by decide) rfl ?_
  intro p e s m args below meth c s₁ B hml hv
  obtain ⟨rfl, hsz, hP, hK, hE⟩ := hv
  have hx := B.exec
  have hb := B.bytes
  have hr := B.returns
  have hts := atoms_spec (ws := w_Turtles_floorOf) B.pre
  have htt : ∀ w ∈ tw_T, w.before _ s = true := fun w h => hts w (List.mem_cons_of_mem _ h)
  have hown : s.vm.findClass R_Turtles = some m.cls := findClass_of_methodNamed B.named
  have hlocks := B.notSynchronized
  subst hsz
  generalize hAe : xN s.heap.size = A at hE ⊢
  have hA : ∀ q : Nat, s.heap.size ≤ q → A q := fun q h => by rw [← hAe]; exact Or.inr h
  have hS : va_S A s.heap s.heap [] := va_S.rf
  have hl := lv_entry ([.ref ((u 5)), .int v1]) (n := 2) (Nat.le_of_ble_eq_true rfl)
  rw [lg_entry_eq]
  generalize (lg_sl ([.ref ((u 5)), .int v1]) ++ List.replicate (2 - (lg_sl ([.ref ((u 5)), .int v1])).length) Slot.unset).toArray = ls at hl ⊢
  have hl : lv_has ls 2 [(0, .ref ((u 5))), (1, .int v1)] := hl
  rw [m_Turtles_floorOf] at hm
  refine lv_aload_n hx hb d_Turtles_floorOf_0 rfl (lv_at hl 0 rfl) ?_
  refine lv_aload_n hx hb d_Turtles_floorOf_1 rfl (lv_at hl 0 rfl) ?_
  refine va_get (D := (dC, dI)) (ci := 5) (v := .int (i 17)) (C := R_Turtles) (T := F_Turtles) (N := 8) hx hb htt iw_Turtles hown hK hP 5 xo_5 rfl 2 (Nat.le_of_ble_eq_true rfl) (htt _ lk_Turtles_34) (fun _ h9 => h9) xg_5_2 d_Turtles_floorOf_2 ?_
  refine lv_iconst (v := 2) hx hb d_Turtles_floorOf_5 (by decide) ?_
  refine lv_iload_n hx hb d_Turtles_floorOf_6 rfl (lv_at hl 1 rfl) ?_
  refine lv_imul hx hb d_Turtles_floorOf_7 ?_
  obtain ⟨r_2, h_1, hm⟩ := ob0_some hm
  have hFc := x_free0 hS hA
  refine va_calli (va_runV (As := [.int (i 17), .int (2 * v1)]) (rest := []) ⟨hx, hb, hml, hown, hts⟩ (x_Turtles_part l dC dI cI adK adV adA u o g s.heap.size n h_1) (cwV 2 hts (tw_GV tw_cons cw_Turtles_part lk_Turtles_119 in_Turtles_part sel_Turtles_part ini_Turtles) rfl rfl rfl ⟨rfl, hd_Turtles_part⟩ ⟨Nat.le_of_ble_eq_true rfl, Nat.le_of_ble_eq_true rfl⟩) (xpVr hK hP hS hE hFc xo_5 rfl) rfl rfl hl.1 rfl (lv_room (Nat.le_of_ble_eq_true rfl)) d_Turtles_floorOf_8 ⟨Nat.le_of_ble_eq_true rfl, Nat.le_of_ble_eq_true rfl⟩) hS (fun q _ h => hFc q h) hFc (fun r9 u9 t9 H locs ht hvm e9 hB hz1 hk1 hS => ?_)
  have e9 : r_2 = r9 := e9
  subst e9
  replace hP := x_keep hP hk1
  clear hFc hk1 hz1 hvm hB ht
  refine lv_i2l hx hb d_Turtles_floorOf_11 rfl ?_
  refine lv_aload_n hx hb d_Turtles_floorOf_12 rfl (lv_at hl 0 rfl) ?_
  refine lv_aload_n hx hb d_Turtles_floorOf_13 rfl (lv_at hl 0 rfl) ?_
  refine va_get (D := (dC, dI)) (ci := 5) (v := .int (i 17)) (C := R_Turtles) (T := F_Turtles) (N := 8) hx hb htt iw_Turtles hown hK hP 5 xo_5 rfl 2 (Nat.le_of_ble_eq_true rfl) (htt _ lk_Turtles_34) (fun _ h9 => h9) xg_5_2 d_Turtles_floorOf_14 ?_
  refine lv_iconst (v := 2) hx hb d_Turtles_floorOf_17 (by decide) ?_
  refine lv_iload_n hx hb d_Turtles_floorOf_18 rfl (lv_at hl 1 rfl) ?_
  refine lv_imul hx hb d_Turtles_floorOf_19 ?_
  refine lv_iconst (v := 1) hx hb d_Turtles_floorOf_20 (by decide) ?_
  refine lv_iadd hx hb d_Turtles_floorOf_21 ?_
  obtain ⟨r_4, h_3, hm⟩ := ob0_some hm
  have hFc := x_free0 hS hA
  refine va_calli (va_runV (As := [.int (i 17), .int ((2 * v1) + 1)]) (rest := [.long r_2.toInt64]) ⟨hx, hb, hml, hown, hts⟩ (x_Turtles_part l dC dI cI adK adV adA u o g H.size n h_3) (cwV 2 hts (tw_GV tw_cons cw_Turtles_part lk_Turtles_119 in_Turtles_part sel_Turtles_part ini_Turtles) rfl rfl rfl ⟨rfl, hd_Turtles_part⟩ ⟨Nat.le_of_ble_eq_true rfl, Nat.le_of_ble_eq_true rfl⟩) (xpVr hK hP hS hE hFc xo_5 rfl) rfl rfl hl.1 rfl (lv_room (Nat.le_of_ble_eq_true rfl)) d_Turtles_floorOf_22 ⟨Nat.le_of_ble_eq_true rfl, Nat.le_of_ble_eq_true rfl⟩) hS (fun q _ h => hFc q h) hFc (fun r9 u9 t9 H locs ht hvm e9 hB hz1 hk1 hS => ?_)
  have e9 : r_4 = r9 := e9
  subst e9
  replace hP := x_keep hP hk1
  clear hFc hk1 hz1 hvm hB ht
  refine lv_i2l hx hb d_Turtles_floorOf_25 rfl ?_
  obtain ⟨r_6, h_5, hm⟩ := ob0_some hm
  have hFc := x_free0 hS hA
  refine va_calll (va_runS (As := [.long r_2.toInt64, .long r_4.toInt64]) (rest := []) ⟨hx, hb, hml, hown, hts⟩ (x_Turtles_floorHalf l H.size n h_5) (va_cwS 2 hts (tw_GS tw_cons cw_Turtles_floorHalf lk_Turtles_84 st_Turtles_floorHalf ini_Turtles) rfl rfl rfl hd_Turtles_floorHalf ⟨Nat.le_of_ble_eq_true rfl, Nat.le_of_ble_eq_true rfl⟩) xpS0 rfl rfl hl.1 rfl (lv_room (Nat.le_of_ble_eq_true rfl)) d_Turtles_floorOf_26 ⟨Nat.le_of_ble_eq_true rfl, Nat.le_of_ble_eq_true rfl⟩) hS (fun q _ h => hFc q h) hFc (fun r9 u9 t9 H locs ht hvm e9 hB hz1 hk1 hS => ?_)
  have e9 : r_6 = r9 := e9
  subst e9
  replace hP := x_keep hP hk1
  clear hFc hk1 hz1 hvm hB ht
  refine lv_l2i hx hb d_Turtles_floorOf_29 rfl ?_
  have e3 := re1 hm
  exact W.iret hx hb hr (fun t9 ht hW => ⟨⟨_, (), rfl, e3.symm, trivial⟩, hS.F ht⟩) hS.2.2 d_Turtles_floorOf_30

def m_Turtles_colour (n : Nat) (g : Nat → Nat) (i : Nat → Int32) (a : Nat → Nat → Int32)  : Option (Int32) := ob0 (m_Turtles_part n g i a (i 17) (5 : Int32)) (fun r_2 => some r_2)
set_option maxHeartbeats 4000000 in
set_option maxRecDepth 100000 in
theorem x_Turtles_colour (l : Launch) (dC : Nat → ClassId) (dI : Nat → Nat → Nat) (cI : ClassId) (adK adV adA u o g : Nat → Nat) (sz : Nat) (n : Nat) {i : Nat → Int32} {a : Nat → Nat → Int32}  {r2 : Int32} (hm : m_Turtles_colour n g i a = some r2) : Met l y_Turtles_colour w_Turtles_colour ({ frames := 2, cells := 0, slots := 0, locals := 42 } : Room) (va_Pc [.ref ((u 5))] (xEr dC dI cI adK adV adA u o g i a sz)) (va_Qi (xR r2) xT (xN sz)) 0 0 (xN sz) := by
  refine Met.ofW (cc := b_Turtles_colour) (maxL := 1) (ret := (some .int)) (by decide) rfl ?_
  intro p e s m args below meth c s₁ B hml hv
  obtain ⟨rfl, hsz, hP, hK, hE⟩ := hv
  have hx := B.exec
  have hb := B.bytes
  have hr := B.returns
  have hts := atoms_spec (ws := w_Turtles_colour) B.pre
  have htt : ∀ w ∈ tw_T, w.before _ s = true := fun w h => hts w (List.mem_cons_of_mem _ h)
  have hown : s.vm.findClass R_Turtles = some m.cls := findClass_of_methodNamed B.named
  have hlocks := B.notSynchronized
  subst hsz
  generalize hAe : xN s.heap.size = A at hE ⊢
  have hA : ∀ q : Nat, s.heap.size ≤ q → A q := fun q h => by rw [← hAe]; exact Or.inr h
  have hS : va_S A s.heap s.heap [] := va_S.rf
  have hl := lv_entry ([.ref ((u 5))]) (n := 1) (Nat.le_of_ble_eq_true rfl)
  rw [lg_entry_eq]
  generalize (lg_sl ([.ref ((u 5))]) ++ List.replicate (1 - (lg_sl ([.ref ((u 5))])).length) Slot.unset).toArray = ls at hl ⊢
  have hl : lv_has ls 1 [(0, .ref ((u 5)))] := hl
  rw [m_Turtles_colour] at hm
  refine lv_aload_n hx hb d_Turtles_colour_0 rfl (lv_at hl 0 rfl) ?_
  refine lv_aload_n hx hb d_Turtles_colour_1 rfl (lv_at hl 0 rfl) ?_
  refine va_get (D := (dC, dI)) (ci := 5) (v := .int (i 17)) (C := R_Turtles) (T := F_Turtles) (N := 8) hx hb htt iw_Turtles hown hK hP 5 xo_5 rfl 2 (Nat.le_of_ble_eq_true rfl) (htt _ lk_Turtles_34) (fun _ h9 => h9) xg_5_2 d_Turtles_colour_2 ?_
  refine lv_iconst (v := 5) hx hb d_Turtles_colour_5 (by decide) ?_
  obtain ⟨r_2, h_1, hm⟩ := ob0_some hm
  have hFc := x_free0 hS hA
  refine va_calli (va_runV (As := [.int (i 17), .int 5]) (rest := []) ⟨hx, hb, hml, hown, hts⟩ (x_Turtles_part l dC dI cI adK adV adA u o g s.heap.size n h_1) (cwV 2 hts (tw_GV tw_cons cw_Turtles_part lk_Turtles_119 in_Turtles_part sel_Turtles_part ini_Turtles) rfl rfl rfl ⟨rfl, hd_Turtles_part⟩ ⟨Nat.le_of_ble_eq_true rfl, Nat.le_of_ble_eq_true rfl⟩) (xpVr hK hP hS hE hFc xo_5 rfl) rfl rfl hl.1 rfl (lv_room (Nat.le_of_ble_eq_true rfl)) d_Turtles_colour_6 ⟨Nat.le_of_ble_eq_true rfl, Nat.le_of_ble_eq_true rfl⟩) hS (fun q _ h => hFc q h) hFc (fun r9 u9 t9 H locs ht hvm e9 hB hz1 hk1 hS => ?_)
  have e9 : r_2 = r9 := e9
  subst e9
  replace hP := x_keep hP hk1
  clear hFc hk1 hz1 hvm hB ht
  have e3 := re1 hm
  exact W.iret hx hb hr (fun t9 ht hW => ⟨⟨_, (), rfl, e3.symm, trivial⟩, hS.F ht⟩) hS.2.2 d_Turtles_colour_9

def m_Turtles_colourBelow (n : Nat) (g : Nat → Nat) (i : Nat → Int32) (a : Nat → Nat → Int32)  : Option (Int32) := ob0 (m_Turtles_part n g i a (i 17) (0 : Int32)) (fun r_2 => ob0 (m_Turtles_part n g i a (i 17) (1 : Int32)) (fun r_4 => ob0 (m_Turtles_floorHalf n ((r_2 + 1).toInt64) r_4.toInt64) (fun r_6 => ob0 (m_Turtles_part n g i a (i 17) (2 : Int32)) (fun r_8 => ob0 (m_Turtles_part n g i a (i 17) (3 : Int32)) (fun r_10 => ob0 (m_Turtles_floorHalf n ((r_8 + 1).toInt64) r_10.toInt64) (fun r_12 => ob0 (m_Turtles_onScreen n r_6 r_12) (fun r_14 => if r_14 = ((0 : Int32)) then some 0 else ob0 (m_Turtles_dotAt n r_6.toInt32 r_12.toInt32) (fun r_17 => ck r_17 4096 (some (a 21 r_17.toNatClampNeg))))))))))
set_option maxHeartbeats 4000000 in
set_option maxRecDepth 100000 in
theorem x_Turtles_colourBelow (l : Launch) (dC : Nat → ClassId) (dI : Nat → Nat → Nat) (cI : ClassId) (adK adV adA u o g : Nat → Nat) (sz : Nat) (n : Nat) {i : Nat → Int32} {a : Nat → Nat → Int32}  {r2 : Int32} (hm : m_Turtles_colourBelow n g i a = some r2) : Met l y_Turtles_colourBelow w_Turtles_colourBelow ({ frames := 2, cells := 0, slots := 0, locals := 50 } : Room) (va_Pc [.ref ((u 5))] (xEr dC dI cI adK adV adA u o g i a sz)) (va_Qi (xR r2) xT (xN sz)) 0 0 (xN sz) := by
  refine Met.ofW (cc := b_Turtles_colourBelow) (maxL := 5) (ret := (some .int)) (by decide) rfl ?_
  intro p e s m args below meth c s₁ B hml hv
  obtain ⟨rfl, hsz, hP, hK, hE⟩ := hv
  have hx := B.exec
  have hb := B.bytes
  have hr := B.returns
  have hts := atoms_spec (ws := w_Turtles_colourBelow) B.pre
  have htt : ∀ w ∈ tw_T, w.before _ s = true := fun w h => hts w (List.mem_cons_of_mem _ h)
  have hown : s.vm.findClass R_Turtles = some m.cls := findClass_of_methodNamed B.named
  have hlocks := B.notSynchronized
  subst hsz
  generalize hAe : xN s.heap.size = A at hE ⊢
  have hA : ∀ q : Nat, s.heap.size ≤ q → A q := fun q h => by rw [← hAe]; exact Or.inr h
  have hS : va_S A s.heap s.heap [] := va_S.rf
  have hl := lv_entry ([.ref ((u 5))]) (n := 5) (Nat.le_of_ble_eq_true rfl)
  rw [lg_entry_eq]
  generalize (lg_sl ([.ref ((u 5))]) ++ List.replicate (5 - (lg_sl ([.ref ((u 5))])).length) Slot.unset).toArray = ls at hl ⊢
  have hl : lv_has ls 5 [(0, .ref ((u 5)))] := hl
  rw [m_Turtles_colourBelow] at hm
  refine lv_aload_n hx hb d_Turtles_colourBelow_0 rfl (lv_at hl 0 rfl) ?_
  refine lv_aload_n hx hb d_Turtles_colourBelow_1 rfl (lv_at hl 0 rfl) ?_
  refine va_get (D := (dC, dI)) (ci := 5) (v := .int (i 17)) (C := R_Turtles) (T := F_Turtles) (N := 8) hx hb htt iw_Turtles hown hK hP 5 xo_5 rfl 2 (Nat.le_of_ble_eq_true rfl) (htt _ lk_Turtles_34) (fun _ h9 => h9) xg_5_2 d_Turtles_colourBelow_2 ?_
  refine lv_iconst (v := 0) hx hb d_Turtles_colourBelow_5 (by decide) ?_
  obtain ⟨r_2, h_1, hm⟩ := ob0_some hm
  have hFc := x_free0 hS hA
  refine va_calli (va_runV (As := [.int (i 17), .int 0]) (rest := []) ⟨hx, hb, hml, hown, hts⟩ (x_Turtles_part l dC dI cI adK adV adA u o g s.heap.size n h_1) (cwV 2 hts (tw_GV tw_cons cw_Turtles_part lk_Turtles_119 in_Turtles_part sel_Turtles_part ini_Turtles) rfl rfl rfl ⟨rfl, hd_Turtles_part⟩ ⟨Nat.le_of_ble_eq_true rfl, Nat.le_of_ble_eq_true rfl⟩) (xpVr hK hP hS hE hFc xo_5 rfl) rfl rfl hl.1 rfl (lv_room (Nat.le_of_ble_eq_true rfl)) d_Turtles_colourBelow_6 ⟨Nat.le_of_ble_eq_true rfl, Nat.le_of_ble_eq_true rfl⟩) hS (fun q _ h => hFc q h) hFc (fun r9 u9 t9 H locs ht hvm e9 hB hz1 hk1 hS => ?_)
  have e9 : r_2 = r9 := e9
  subst e9
  replace hP := x_keep hP hk1
  clear hFc hk1 hz1 hvm hB ht
  refine lv_iconst (v := 1) hx hb d_Turtles_colourBelow_9 (by decide) ?_
  refine lv_iadd hx hb d_Turtles_colourBelow_10 ?_
  refine lv_i2l hx hb d_Turtles_colourBelow_11 rfl ?_
  refine lv_aload_n hx hb d_Turtles_colourBelow_12 rfl (lv_at hl 0 rfl) ?_
  refine lv_aload_n hx hb d_Turtles_colourBelow_13 rfl (lv_at hl 0 rfl) ?_
  refine va_get (D := (dC, dI)) (ci := 5) (v := .int (i 17)) (C := R_Turtles) (T := F_Turtles) (N := 8) hx hb htt iw_Turtles hown hK hP 5 xo_5 rfl 2 (Nat.le_of_ble_eq_true rfl) (htt _ lk_Turtles_34) (fun _ h9 => h9) xg_5_2 d_Turtles_colourBelow_14 ?_
  refine lv_iconst (v := 1) hx hb d_Turtles_colourBelow_17 (by decide) ?_
  obtain ⟨r_4, h_3, hm⟩ := ob0_some hm
  have hFc := x_free0 hS hA
  refine va_calli (va_runV (As := [.int (i 17), .int 1]) (rest := [.long ((r_2 + 1).toInt64)]) ⟨hx, hb, hml, hown, hts⟩ (x_Turtles_part l dC dI cI adK adV adA u o g H.size n h_3) (cwV 2 hts (tw_GV tw_cons cw_Turtles_part lk_Turtles_119 in_Turtles_part sel_Turtles_part ini_Turtles) rfl rfl rfl ⟨rfl, hd_Turtles_part⟩ ⟨Nat.le_of_ble_eq_true rfl, Nat.le_of_ble_eq_true rfl⟩) (xpVr hK hP hS hE hFc xo_5 rfl) rfl rfl hl.1 rfl (lv_room (Nat.le_of_ble_eq_true rfl)) d_Turtles_colourBelow_18 ⟨Nat.le_of_ble_eq_true rfl, Nat.le_of_ble_eq_true rfl⟩) hS (fun q _ h => hFc q h) hFc (fun r9 u9 t9 H locs ht hvm e9 hB hz1 hk1 hS => ?_)
  have e9 : r_4 = r9 := e9
  subst e9
  replace hP := x_keep hP hk1
  clear hFc hk1 hz1 hvm hB ht
  refine lv_i2l hx hb d_Turtles_colourBelow_21 rfl ?_
  obtain ⟨r_6, h_5, hm⟩ := ob0_some hm
  have hFc := x_free0 hS hA
  refine va_calll (va_runS (As := [.long ((r_2 + 1).toInt64), .long r_4.toInt64]) (rest := []) ⟨hx, hb, hml, hown, hts⟩ (x_Turtles_floorHalf l H.size n h_5) (va_cwS 2 hts (tw_GS tw_cons cw_Turtles_floorHalf lk_Turtles_84 st_Turtles_floorHalf ini_Turtles) rfl rfl rfl hd_Turtles_floorHalf ⟨Nat.le_of_ble_eq_true rfl, Nat.le_of_ble_eq_true rfl⟩) xpS0 rfl rfl hl.1 rfl (lv_room (Nat.le_of_ble_eq_true rfl)) d_Turtles_colourBelow_22 ⟨Nat.le_of_ble_eq_true rfl, Nat.le_of_ble_eq_true rfl⟩) hS (fun q _ h => hFc q h) hFc (fun r9 u9 t9 H locs ht hvm e9 hB hz1 hk1 hS => ?_)
  have e9 : r_6 = r9 := e9
  subst e9
  replace hP := x_keep hP hk1
  clear hFc hk1 hz1 hvm hB ht
  refine lv_lstore_n (lv' := [(1, .long r_6), (0, .ref ((u 5)))]) hx hb d_Turtles_colourBelow_25 rfl hl (by decide) rfl (fun ls hl => ?_)
  refine lv_aload_n hx hb d_Turtles_colourBelow_26 rfl (lv_at hl 1 rfl) ?_
  refine lv_aload_n hx hb d_Turtles_colourBelow_27 rfl (lv_at hl 1 rfl) ?_
  refine va_get (D := (dC, dI)) (ci := 5) (v := .int (i 17)) (C := R_Turtles) (T := F_Turtles) (N := 8) hx hb htt iw_Turtles hown hK hP 5 xo_5 rfl 2 (Nat.le_of_ble_eq_true rfl) (htt _ lk_Turtles_34) (fun _ h9 => h9) xg_5_2 d_Turtles_colourBelow_28 ?_
  refine lv_iconst (v := 2) hx hb d_Turtles_colourBelow_31 (by decide) ?_
  obtain ⟨r_8, h_7, hm⟩ := ob0_some hm
  have hFc := x_free0 hS hA
  refine va_calli (va_runV (As := [.int (i 17), .int 2]) (rest := []) ⟨hx, hb, hml, hown, hts⟩ (x_Turtles_part l dC dI cI adK adV adA u o g H.size n h_7) (cwV 2 hts (tw_GV tw_cons cw_Turtles_part lk_Turtles_119 in_Turtles_part sel_Turtles_part ini_Turtles) rfl rfl rfl ⟨rfl, hd_Turtles_part⟩ ⟨Nat.le_of_ble_eq_true rfl, Nat.le_of_ble_eq_true rfl⟩) (xpVr hK hP hS hE hFc xo_5 rfl) rfl rfl hl.1 rfl (lv_room (Nat.le_of_ble_eq_true rfl)) d_Turtles_colourBelow_32 ⟨Nat.le_of_ble_eq_true rfl, Nat.le_of_ble_eq_true rfl⟩) hS (fun q _ h => hFc q h) hFc (fun r9 u9 t9 H locs ht hvm e9 hB hz1 hk1 hS => ?_)
  have e9 : r_8 = r9 := e9
  subst e9
  replace hP := x_keep hP hk1
  clear hFc hk1 hz1 hvm hB ht
  refine lv_iconst (v := 1) hx hb d_Turtles_colourBelow_35 (by decide) ?_
  refine lv_iadd hx hb d_Turtles_colourBelow_36 ?_
  refine lv_i2l hx hb d_Turtles_colourBelow_37 rfl ?_
  refine lv_aload_n hx hb d_Turtles_colourBelow_38 rfl (lv_at hl 1 rfl) ?_
  refine lv_aload_n hx hb d_Turtles_colourBelow_39 rfl (lv_at hl 1 rfl) ?_
  refine va_get (D := (dC, dI)) (ci := 5) (v := .int (i 17)) (C := R_Turtles) (T := F_Turtles) (N := 8) hx hb htt iw_Turtles hown hK hP 5 xo_5 rfl 2 (Nat.le_of_ble_eq_true rfl) (htt _ lk_Turtles_34) (fun _ h9 => h9) xg_5_2 d_Turtles_colourBelow_40 ?_
  refine lv_iconst (v := 3) hx hb d_Turtles_colourBelow_43 (by decide) ?_
  obtain ⟨r_10, h_9, hm⟩ := ob0_some hm
  have hFc := x_free0 hS hA
  refine va_calli (va_runV (As := [.int (i 17), .int 3]) (rest := [.long ((r_8 + 1).toInt64)]) ⟨hx, hb, hml, hown, hts⟩ (x_Turtles_part l dC dI cI adK adV adA u o g H.size n h_9) (cwV 2 hts (tw_GV tw_cons cw_Turtles_part lk_Turtles_119 in_Turtles_part sel_Turtles_part ini_Turtles) rfl rfl rfl ⟨rfl, hd_Turtles_part⟩ ⟨Nat.le_of_ble_eq_true rfl, Nat.le_of_ble_eq_true rfl⟩) (xpVr hK hP hS hE hFc xo_5 rfl) rfl rfl hl.1 rfl (lv_room (Nat.le_of_ble_eq_true rfl)) d_Turtles_colourBelow_44 ⟨Nat.le_of_ble_eq_true rfl, Nat.le_of_ble_eq_true rfl⟩) hS (fun q _ h => hFc q h) hFc (fun r9 u9 t9 H locs ht hvm e9 hB hz1 hk1 hS => ?_)
  have e9 : r_10 = r9 := e9
  subst e9
  replace hP := x_keep hP hk1
  clear hFc hk1 hz1 hvm hB ht
  refine lv_i2l hx hb d_Turtles_colourBelow_47 rfl ?_
  obtain ⟨r_12, h_11, hm⟩ := ob0_some hm
  have hFc := x_free0 hS hA
  refine va_calll (va_runS (As := [.long ((r_8 + 1).toInt64), .long r_10.toInt64]) (rest := []) ⟨hx, hb, hml, hown, hts⟩ (x_Turtles_floorHalf l H.size n h_11) (va_cwS 2 hts (tw_GS tw_cons cw_Turtles_floorHalf lk_Turtles_84 st_Turtles_floorHalf ini_Turtles) rfl rfl rfl hd_Turtles_floorHalf ⟨Nat.le_of_ble_eq_true rfl, Nat.le_of_ble_eq_true rfl⟩) xpS0 rfl rfl hl.1 rfl (lv_room (Nat.le_of_ble_eq_true rfl)) d_Turtles_colourBelow_48 ⟨Nat.le_of_ble_eq_true rfl, Nat.le_of_ble_eq_true rfl⟩) hS (fun q _ h => hFc q h) hFc (fun r9 u9 t9 H locs ht hvm e9 hB hz1 hk1 hS => ?_)
  have e9 : r_12 = r9 := e9
  subst e9
  replace hP := x_keep hP hk1
  clear hFc hk1 hz1 hvm hB ht
  refine lv_lstore_n (lv' := [(3, .long r_12), (1, .long r_6), (0, .ref ((u 5)))]) hx hb d_Turtles_colourBelow_51 rfl hl (by decide) rfl (fun ls hl => ?_)
  refine lv_lload_n hx hb d_Turtles_colourBelow_52 rfl (lv_at hl 1 rfl) ?_
  refine lv_lload_n hx hb d_Turtles_colourBelow_53 rfl (lv_at hl 0 rfl) ?_
  obtain ⟨r_14, h_13, hm⟩ := ob0_some hm
  have hFc := x_free0 hS hA
  refine va_calli (va_runS (As := [.long r_6, .long r_12]) (rest := []) ⟨hx, hb, hml, hown, hts⟩ (x_Turtles_onScreen l H.size n h_13) (va_cwS 2 hts (tw_GS tw_cons cw_Turtles_onScreen lk_Turtles_115 st_Turtles_onScreen ini_Turtles) rfl rfl rfl hd_Turtles_onScreen ⟨Nat.le_of_ble_eq_true rfl, Nat.le_of_ble_eq_true rfl⟩) xpS0 rfl rfl hl.1 rfl (lv_room (Nat.le_of_ble_eq_true rfl)) d_Turtles_colourBelow_54 ⟨Nat.le_of_ble_eq_true rfl, Nat.le_of_ble_eq_true rfl⟩) hS (fun q _ h => hFc q h) hFc (fun r9 u9 t9 H locs ht hvm e9 hB hz1 hk1 hS => ?_)
  have e9 : r_14 = r9 := e9
  subst e9
  replace hP := x_keep hP hk1
  clear hFc hk1 hz1 hvm hB ht
  refine lv_if_eq (tgt := 75) hx hb d_Turtles_colourBelow_57 (by decide) (fun c_15 => ?_) (fun c_15 => ?_)
  · replace hm := if_t c_15 hm
    refine lv_iconst (v := 0) hx hb d_Turtles_colourBelow_75 (by decide) ?_
    have e3 := re1 hm
    exact W.iret hx hb hr (fun t9 ht hW => ⟨⟨_, (), rfl, e3.symm, trivial⟩, hS.F ht⟩) hS.2.2 d_Turtles_colourBelow_76
  · replace hm := if_f c_15 hm
    refine lv_aload_n hx hb d_Turtles_colourBelow_60 rfl (lv_at hl 2 rfl) ?_
    refine va_get (D := (dC, dI)) (ci := 5) (v := .ref ((u 31))) (C := R_Turtles) (T := F_Turtles) (N := 8) hx hb htt iw_Turtles hown hK hP 5 xo_5 rfl 1 (Nat.le_of_ble_eq_true rfl) (htt _ lk_Turtles_15) (fun _ h9 => h9) xg_5_1 d_Turtles_colourBelow_61 ?_
    refine lv_lload_n hx hb d_Turtles_colourBelow_64 rfl (lv_at hl 1 rfl) ?_
    refine lv_l2i hx hb d_Turtles_colourBelow_65 rfl ?_
    refine lv_lload_n hx hb d_Turtles_colourBelow_66 rfl (lv_at hl 0 rfl) ?_
    refine lv_l2i hx hb d_Turtles_colourBelow_67 rfl ?_
    obtain ⟨r_17, h_16, hm⟩ := ob0_some hm
    have hFc := x_free0 hS hA
    refine va_calli (va_runS (As := [.int r_6.toInt32, .int r_12.toInt32]) (rest := [.ref ((u 31))]) ⟨hx, hb, hml, hown, hts⟩ (x_Turtles_dotAt l H.size n h_16) (va_cwS 2 hts (tw_GS tw_cons cw_Turtles_dotAt lk_Turtles_110 st_Turtles_dotAt ini_Turtles) rfl rfl rfl hd_Turtles_dotAt ⟨Nat.le_of_ble_eq_true rfl, Nat.le_of_ble_eq_true rfl⟩) xpS0 rfl rfl hl.1 rfl (lv_room (Nat.le_of_ble_eq_true rfl)) d_Turtles_colourBelow_68 ⟨Nat.le_of_ble_eq_true rfl, Nat.le_of_ble_eq_true rfl⟩) hS (fun q _ h => hFc q h) hFc (fun r9 u9 t9 H locs ht hvm e9 hB hz1 hk1 hS => ?_)
    have e9 : r_17 = r9 := e9
    subst e9
    replace hP := x_keep hP hk1
    clear hFc hk1 hz1 hvm hB ht
    obtain ⟨h_18, hm⟩ := ck_some hm
    refine va_iald hx hb hK hP 33 0 twA_21 rfl h_18 d_Turtles_colourBelow_71 ?_
    refine lv_goto (tgt := 76) hx hb d_Turtles_colourBelow_72 (by decide) ?_
    have e3 := re1 hm
    exact W.iret hx hb hr (fun t9 ht hW => ⟨⟨_, (), rfl, e3.symm, trivial⟩, hS.F ht⟩) hS.2.2 d_Turtles_colourBelow_76

def m_Turtles_atOnePlace_b2 (n : Nat) (g : Nat → Nat) (i : Nat → Int32) (a : Nat → Nat → Int32) : Nat → Int32 → Int32 → Int32 → Option (Int32)
  | 0, _, _, _ => none
  | f + 1, v1, v2, v3 => if ((4 : Int32)) ≤ v3 then some 1 else ob0 (m_Turtles_part n g i a v1 v3) (fun r_3 => ob0 (m_Turtles_part n g i a v2 v3) (fun r_5 => if r_3 = r_5 then ob1 (v3 + 1 : Int32) (fun x_7 => m_Turtles_atOnePlace_b2 n g i a f v1 v2 x_7) else some 0))
set_option maxHeartbeats 4000000 in
set_option maxRecDepth 100000 in
theorem lb_Turtles_atOnePlace_2 (l : Launch) (dC : Nat → ClassId) (dI : Nat → Nat → Nat) (cI : ClassId) (adK adV adA u o g : Nat → Nat) (n : Nat) {p : Program} {e : Env} {s : State} {m : MethodId} {args : Array Value} {below : List Frame} {meth : Method} {c : Code} {A : Nat → Prop} (hx : p.tables.exec = Jvm.exec) (hb : c.code = b_Turtles_atOnePlace) (hml : c.maxLocals = 4) (hown : s.vm.findClass R_Turtles = some m.cls) (hts : ∀ w ∈ w_Turtles_atOnePlace, w.before args s = true) (hK : va_K (dC, dI) classes [(cI, .int)] s) (hE : tw_E adK adV adA A s s.heap) (hA : ∀ q : Nat, s.heap.size ≤ q → A q) (hr : meth.sig.returnType = (some .boolean)) (hlocks : meth.locks = false) {i : Nat → Int32} {a : Nat → Nat → Int32} {r2 : Int32} : ∀ (f : Nat) (v1 : Int32) (v2 : Int32) (v3 : Int32), m_Turtles_atOnePlace_b2 n g i a f v1 v2 v3 = some r2 → ∀ (H : Heap) (locs : List Loc) (ls : Array Slot), va_P (dC, dI) classes (TW cI u o i a g) H → va_S A s.heap H locs → lv_has ls 4 [(0, .ref ((u 5))), (1, .int v1), (2, .int v2), (3, .int v3)] → W p l e ({ frames := 2, cells := 0, slots := 0, locals := 42 } : Room) s m args below meth c H locs 0 0 (MQ below (va_Qi (xR r2) xT A) args s 0 0 A) (F0 m 2 ls []) := by
  have htt : ∀ w ∈ tw_T, w.before _ s = true := fun w h => hts w (List.mem_cons_of_mem _ h)
  intro f
  induction f with
  | zero =>
    intro v1 v2 v3 hm
    rw [m_Turtles_atOnePlace_b2] at hm
    cases hm
  | succ f ih =>
    intro v1 v2 v3 hm H locs ls hP hS hl
    rw [m_Turtles_atOnePlace_b2] at hm
    refine lv_iload_n hx hb d_Turtles_atOnePlace_2 rfl (lv_at hl 3 rfl) ?_
    refine lv_iconst (v := 4) hx hb d_Turtles_atOnePlace_3 (by decide) ?_
    refine lv_icmp_ge (tgt := 30) hx hb d_Turtles_atOnePlace_4 (by decide) (fun c_1 => ?_) (fun c_1 => ?_)
    · replace hm := if_t c_1 hm
      refine lv_iconst (v := 1) hx hb d_Turtles_atOnePlace_30 (by decide) ?_
      have e3 := re1 hm
      exact W.zret hx hb hr (by decide) (fun t9 ht hW => ⟨⟨_, (), rfl, e3.symm, trivial⟩, hS.F ht⟩) hS.2.2 d_Turtles_atOnePlace_31
    · replace hm := if_f c_1 hm
      refine lv_aload_n hx hb d_Turtles_atOnePlace_7 rfl (lv_at hl 0 rfl) ?_
      refine lv_iload_n hx hb d_Turtles_atOnePlace_8 rfl (lv_at hl 1 rfl) ?_
      refine lv_iload_n hx hb d_Turtles_atOnePlace_9 rfl (lv_at hl 3 rfl) ?_
      obtain ⟨r_3, h_2, hm⟩ := ob0_some hm
      have hFc := x_free0 hS hA
      refine va_calli (va_runV (As := [.int v1, .int v3]) (rest := []) ⟨hx, hb, hml, hown, hts⟩ (x_Turtles_part l dC dI cI adK adV adA u o g H.size n h_2) (cwV 2 hts (tw_GV tw_cons cw_Turtles_part lk_Turtles_119 in_Turtles_part sel_Turtles_part ini_Turtles) rfl rfl rfl ⟨rfl, hd_Turtles_part⟩ ⟨Nat.le_of_ble_eq_true rfl, Nat.le_of_ble_eq_true rfl⟩) (xpVr hK hP hS hE hFc xo_5 rfl) rfl rfl hl.1 rfl (lv_room (Nat.le_of_ble_eq_true rfl)) d_Turtles_atOnePlace_10 ⟨Nat.le_of_ble_eq_true rfl, Nat.le_of_ble_eq_true rfl⟩) hS (fun q _ h => hFc q h) hFc (fun r9 u9 t9 H locs ht hvm e9 hB hz1 hk1 hS => ?_)
      have e9 : r_3 = r9 := e9
      subst e9
      replace hP := x_keep hP hk1
      clear hFc hk1 hz1 hvm hB ht
      refine lv_aload_n hx hb d_Turtles_atOnePlace_13 rfl (lv_at hl 0 rfl) ?_
      refine lv_iload_n hx hb d_Turtles_atOnePlace_14 rfl (lv_at hl 2 rfl) ?_
      refine lv_iload_n hx hb d_Turtles_atOnePlace_15 rfl (lv_at hl 3 rfl) ?_
      obtain ⟨r_5, h_4, hm⟩ := ob0_some hm
      have hFc := x_free0 hS hA
      refine va_calli (va_runV (As := [.int v2, .int v3]) (rest := [.int r_3]) ⟨hx, hb, hml, hown, hts⟩ (x_Turtles_part l dC dI cI adK adV adA u o g H.size n h_4) (cwV 2 hts (tw_GV tw_cons cw_Turtles_part lk_Turtles_119 in_Turtles_part sel_Turtles_part ini_Turtles) rfl rfl rfl ⟨rfl, hd_Turtles_part⟩ ⟨Nat.le_of_ble_eq_true rfl, Nat.le_of_ble_eq_true rfl⟩) (xpVr hK hP hS hE hFc xo_5 rfl) rfl rfl hl.1 rfl (lv_room (Nat.le_of_ble_eq_true rfl)) d_Turtles_atOnePlace_16 ⟨Nat.le_of_ble_eq_true rfl, Nat.le_of_ble_eq_true rfl⟩) hS (fun q _ h => hFc q h) hFc (fun r9 u9 t9 H locs ht hvm e9 hB hz1 hk1 hS => ?_)
      have e9 : r_5 = r9 := e9
      subst e9
      replace hP := x_keep hP hk1
      clear hFc hk1 hz1 hvm hB ht
      refine lv_icmp_eq (tgt := 24) hx hb d_Turtles_atOnePlace_19 (by decide) (fun c_6 => ?_) (fun c_6 => ?_)
      · replace hm := if_t c_6 hm
        obtain ⟨x_7, ex_7⟩ : ∃ y9 : Int32, y9 = v3 + 1 := ⟨_, rfl⟩
        replace hm := ob1_at ex_7 hm
        refine lv_iinc (v := x_7) (lv' := [(3, .int x_7), (0, .ref ((u 5))), (1, .int v1), (2, .int v2)]) hx hb d_Turtles_atOnePlace_24 hl (k := 3) rfl (by rw [ex_7]; rfl) (by decide) rfl (fun ls hl => ?_)
        refine lv_goto (tgt := 2) hx hb d_Turtles_atOnePlace_27 (by decide) ?_
        exact ih _ _ _ hm _ _ _ hP hS (lv_sub hl [1, 2, 3, 0] rfl)
      · replace hm := if_f c_6 hm
        refine lv_iconst (v := 0) hx hb d_Turtles_atOnePlace_22 (by decide) ?_
        have e3 := re1 hm
        exact W.zret hx hb hr (by decide) (fun t9 ht hW => ⟨⟨_, (), rfl, e3.symm, trivial⟩, hS.F ht⟩) hS.2.2 d_Turtles_atOnePlace_23
def m_Turtles_atOnePlace (n : Nat) (g : Nat → Nat) (i : Nat → Int32) (a : Nat → Nat → Int32) (v1 : Int32) (v2 : Int32) : Option (Int32) := m_Turtles_atOnePlace_b2 n g i a n v1 v2 (0 : Int32)
set_option maxHeartbeats 4000000 in
set_option maxRecDepth 100000 in
theorem x_Turtles_atOnePlace (l : Launch) (dC : Nat → ClassId) (dI : Nat → Nat → Nat) (cI : ClassId) (adK adV adA u o g : Nat → Nat) (sz : Nat) (n : Nat) {i : Nat → Int32} {a : Nat → Nat → Int32} {v1 : Int32} {v2 : Int32} {r2 : Int32} (hm : m_Turtles_atOnePlace n g i a v1 v2 = some r2) : Met l y_Turtles_atOnePlace w_Turtles_atOnePlace ({ frames := 2, cells := 0, slots := 0, locals := 42 } : Room) (va_Pc [.ref ((u 5)), .int v1, .int v2] (xEr dC dI cI adK adV adA u o g i a sz)) (va_Qi (xR r2) xT (xN sz)) 0 0 (xN sz) := by
  refine Met.ofW (cc := b_Turtles_atOnePlace) (maxL := 4) (ret := (some .boolean)) (by decide) rfl ?_
  intro p e s m args below meth c s₁ B hml hv
  obtain ⟨rfl, hsz, hP, hK, hE⟩ := hv
  have hx := B.exec
  have hb := B.bytes
  have hr := B.returns
  have hts := atoms_spec (ws := w_Turtles_atOnePlace) B.pre
  have htt : ∀ w ∈ tw_T, w.before _ s = true := fun w h => hts w (List.mem_cons_of_mem _ h)
  have hown : s.vm.findClass R_Turtles = some m.cls := findClass_of_methodNamed B.named
  have hlocks := B.notSynchronized
  subst hsz
  generalize hAe : xN s.heap.size = A at hE ⊢
  have hA : ∀ q : Nat, s.heap.size ≤ q → A q := fun q h => by rw [← hAe]; exact Or.inr h
  have hS : va_S A s.heap s.heap [] := va_S.rf
  have hl := lv_entry ([.ref ((u 5)), .int v1, .int v2]) (n := 4) (Nat.le_of_ble_eq_true rfl)
  rw [lg_entry_eq]
  generalize (lg_sl ([.ref ((u 5)), .int v1, .int v2]) ++ List.replicate (4 - (lg_sl ([.ref ((u 5)), .int v1, .int v2])).length) Slot.unset).toArray = ls at hl ⊢
  have hl : lv_has ls 4 [(0, .ref ((u 5))), (1, .int v1), (2, .int v2)] := hl
  rw [m_Turtles_atOnePlace] at hm
  refine lv_iconst (v := 0) hx hb d_Turtles_atOnePlace_0 (by decide) ?_
  refine lv_istore_n (lv' := [(3, .int 0), (0, .ref ((u 5))), (1, .int v1), (2, .int v2)]) hx hb d_Turtles_atOnePlace_1 rfl hl (by decide) rfl (fun ls hl => ?_)
  exact lb_Turtles_atOnePlace_2 l dC dI cI adK adV adA u o g n hx hb hml hown hts hK hE hA hr hlocks n _ _ _ hm _ _ _ hP hS (lv_sub hl [1, 2, 3, 0] rfl)

def m_Deeds_numberWord (n : Nat) (g : Nat → Nat) (i : Nat → Int32) (a : Nat → Nat → Int32) (v1 : Int32) : Option ((Nat → Int32) × (Nat → Nat → Int32) × Int32) := ob0 (m_Waiting_input n g i a (0 : Int32)) (fun r_2 => ob1 ((r_2 >>> ((1 : Int32) &&& 31)).toInt64 : Int64) (fun x_3 => ob0 (m_Waiting_input n g i a (1 : Int32)) (fun r_5 => ob1 ((r_5 >>> ((1 : Int32) &&& 31)).toInt64 : Int64) (fun x_6 => if v1 = 20 then ob0 (m_Deeds_inBounds n (x_3 + x_6)) (fun r_9 => some (i, a, r_9)) else if v1 = 21 then ob0 (m_Deeds_inBounds n (x_3 - x_6)) (fun r_12 => some (i, a, r_12)) else if v1 = 22 then ob0 (m_Deeds_inBounds n (x_3 * x_6)) (fun r_15 => some (i, a, r_15)) else if v1 = 23 then if ((lg_cmp x_6 0)) = ((0 : Int32)) then some (i, a, (-2147483638)) else czl x_6 (ob0 (m_Deeds_inBounds n (x_3 / x_6)) (fun r_20 => some (i, a, r_20))) else if v1 = 24 then if ((lg_cmp x_6 0)) = ((0 : Int32)) then some (i, a, (-2147483638)) else czl x_6 (ob0 (m_Deeds_inBounds n (x_3 - x_3 / x_6 * x_6)) (fun r_25 => some (i, a, r_25))) else if v1 = 25 then ob0 (m_Deeds_inBounds n (-x_3)) (fun r_28 => some (i, a, r_28)) else if v1 = 26 then if ((0 : Int32)) ≤ ((lg_cmp x_3 x_6)) then ob0 (m_Heap_truth n g i a (0 : Int32)) (fun r_32 => some (i, a, r_32)) else ob0 (m_Heap_truth n g i a (1 : Int32)) (fun r_34 => some (i, a, r_34)) else if v1 = 27 then if ((lg_cmp x_3 x_6)) ≤ ((0 : Int32)) then ob0 (m_Heap_truth n g i a (0 : Int32)) (fun r_38 => some (i, a, r_38)) else ob0 (m_Heap_truth n g i a (1 : Int32)) (fun r_40 => some (i, a, r_40)) else if v1 = 28 then ob (m_Deeds_random n g i a x_3.toInt32) (fun i_43 a_44 r_45 => some (i_43, a_44, r_45)) else if v1 = 29 then ob0 (m_Deeds_isTrue n g i a (0 : Int32)) (fun r_48 => if r_48 = ((0 : Int32)) then ob0 (m_Heap_truth n g i a (0 : Int32)) (fun r_51 => some (i, a, r_51)) else ob0 (m_Deeds_isTrue n g i a (1 : Int32)) (fun r_53 => if r_53 = ((0 : Int32)) then ob0 (m_Heap_truth n g i a (0 : Int32)) (fun r_56 => some (i, a, r_56)) else ob0 (m_Heap_truth n g i a (1 : Int32)) (fun r_58 => some (i, a, r_58)))) else if v1 = 30 then ob0 (m_Deeds_isTrue n g i a (0 : Int32)) (fun r_61 => if r_61 = ((0 : Int32)) then ob0 (m_Deeds_isTrue n g i a (1 : Int32)) (fun r_66 => if r_66 = ((0 : Int32)) then ob0 (m_Heap_truth n g i a (0 : Int32)) (fun r_69 => some (i, a, r_69)) else ob0 (m_Heap_truth n g i a (1 : Int32)) (fun r_71 => some (i, a, r_71))) else ob0 (m_Heap_truth n g i a (1 : Int32)) (fun r_64 => some (i, a, r_64))) else if v1 = 31 then ob0 (m_Deeds_isTrue n g i a (0 : Int32)) (fun r_74 => if r_74 = ((0 : Int32)) then ob0 (m_Heap_truth n g i a (1 : Int32)) (fun r_79 => some (i, a, r_79)) else ob0 (m_Heap_truth n g i a (0 : Int32)) (fun r_77 => some (i, a, r_77))) else some (i, a, (-2147483647))))))
set_option maxHeartbeats 4000000 in
set_option maxRecDepth 100000 in
theorem x_Deeds_numberWord (l : Launch) (dC : Nat → ClassId) (dI : Nat → Nat → Nat) (cI : ClassId) (adK adV adA u o g : Nat → Nat) (sz : Nat) (n : Nat) {i : Nat → Int32} {a : Nat → Nat → Int32} {v1 : Int32} {i2 : Nat → Int32} {a2 : Nat → Nat → Int32} {r2 : Int32} (hm : m_Deeds_numberWord n g i a v1 = some (i2, a2, r2)) : Met l y_Deeds_numberWord w_Deeds_numberWord ({ frames := 2, cells := 0, slots := 0, locals := 47 } : Room) (va_Pc [.ref ((u 10)), .int v1] (xE dC dI cI adK adV adA u o g i a sz)) (va_Qi (xR r2) (xB dC dI cI u o g i2 a2 (va_A (TW cI u o i a g) sz)) (va_A (TW cI u o i a g) sz)) 0 0 ((va_A (TW cI u o i a g) sz)) := by
  refine Met.ofW (cc := b_Deeds_numberWord) (maxL := 6) (ret := (some .int)) (by decide) rfl ?_
  intro p e s m args below meth c s₁ B hml hv
  obtain ⟨rfl, hsz, hP, hK, hE, hD0⟩ := hv
  have hx := B.exec
  have hb := B.bytes
  have hr := B.returns
  have hts := atoms_spec (ws := w_Deeds_numberWord) B.pre
  have htt : ∀ w ∈ tw_T, w.before _ s = true := fun w h => hts w (List.mem_cons_of_mem _ h)
  have hown : s.vm.findClass R_Deeds = some m.cls := findClass_of_methodNamed B.named
  have hlocks := B.notSynchronized
  subst hsz
  have hD := hD0.self (sz := s.heap.size)
  generalize hAe : (va_A (TW cI u o i a g) s.heap.size) = A at hD hE ⊢
  have hA : ∀ q : Nat, s.heap.size ≤ q → A q := fun q h => by rw [← hAe]; exact Or.inr h
  have hS : va_S A s.heap s.heap [] := va_S.rf
  have hl := lv_entry ([.ref ((u 10)), .int v1]) (n := 6) (Nat.le_of_ble_eq_true rfl)
  rw [lg_entry_eq]
  generalize (lg_sl ([.ref ((u 10)), .int v1]) ++ List.replicate (6 - (lg_sl ([.ref ((u 10)), .int v1])).length) Slot.unset).toArray = ls at hl ⊢
  have hl : lv_has ls 6 [(0, .ref ((u 10))), (1, .int v1)] := hl
  rw [m_Deeds_numberWord] at hm
  refine lv_aload_n hx hb d_Deeds_numberWord_0 rfl (lv_at hl 0 rfl) ?_
  refine va_get (D := (dC, dI)) (ci := 10) (v := .ref ((u 9))) (C := R_Deeds) (T := F_Deeds) (N := 8) hx hb htt iw_Deeds hown hK hP 10 xo_10 rfl 2 (Nat.le_of_ble_eq_true rfl) (htt _ lk_Deeds_22) (fun _ h9 => h9) xg_10_2 d_Deeds_numberWord_1 ?_
  refine lv_iconst (v := 0) hx hb d_Deeds_numberWord_4 (by decide) ?_
  obtain ⟨r_2, h_1, hm⟩ := ob0_some hm
  have hFc := x_free0 hS hA
  refine va_calli (va_runV (As := [.int 0]) (rest := []) ⟨hx, hb, hml, hown, hts⟩ (x_Waiting_input l dC dI cI adK adV adA u o g s.heap.size n h_1) (cwV 1 hts (tw_GV tw_cons cw_Waiting_input lk_Deeds_62 in_Waiting_input sel_Waiting_input ini_Waiting) rfl rfl rfl ⟨rfl, hd_Waiting_input⟩ ⟨Nat.le_of_ble_eq_true rfl, Nat.le_of_ble_eq_true rfl⟩) (xpVr hK hP hS hE hFc xo_9 rfl) rfl rfl hl.1 rfl (lv_room (Nat.le_of_ble_eq_true rfl)) d_Deeds_numberWord_5 ⟨Nat.le_of_ble_eq_true rfl, Nat.le_of_ble_eq_true rfl⟩) hS (fun q _ h => hFc q h) hFc (fun r9 u9 t9 H locs ht hvm e9 hB hz1 hk1 hS => ?_)
  have e9 : r_2 = r9 := e9
  subst e9
  replace hP := x_keep hP hk1
  clear hFc hk1 hz1 hvm hB ht
  refine lv_iconst (v := 1) hx hb d_Deeds_numberWord_8 (by decide) ?_
  refine lv_ishr hx hb d_Deeds_numberWord_9 ?_
  refine lv_i2l hx hb d_Deeds_numberWord_10 rfl ?_
  refine lv_topl (fun x_3 ex_3 => ?_)
  replace hm := ob1_at ex_3 hm
  refine lv_lstore_n (lv' := [(2, .long x_3), (0, .ref ((u 10))), (1, .int v1)]) hx hb d_Deeds_numberWord_11 rfl hl (by decide) rfl (fun ls hl => ?_)
  refine lv_aload_n hx hb d_Deeds_numberWord_12 rfl (lv_at hl 1 rfl) ?_
  refine va_get (D := (dC, dI)) (ci := 10) (v := .ref ((u 9))) (C := R_Deeds) (T := F_Deeds) (N := 8) hx hb htt iw_Deeds hown hK hP 10 xo_10 rfl 2 (Nat.le_of_ble_eq_true rfl) (htt _ lk_Deeds_22) (fun _ h9 => h9) xg_10_2 d_Deeds_numberWord_13 ?_
  refine lv_iconst (v := 1) hx hb d_Deeds_numberWord_16 (by decide) ?_
  obtain ⟨r_5, h_4, hm⟩ := ob0_some hm
  have hFc := x_free0 hS hA
  refine va_calli (va_runV (As := [.int 1]) (rest := []) ⟨hx, hb, hml, hown, hts⟩ (x_Waiting_input l dC dI cI adK adV adA u o g H.size n h_4) (cwV 1 hts (tw_GV tw_cons cw_Waiting_input lk_Deeds_62 in_Waiting_input sel_Waiting_input ini_Waiting) rfl rfl rfl ⟨rfl, hd_Waiting_input⟩ ⟨Nat.le_of_ble_eq_true rfl, Nat.le_of_ble_eq_true rfl⟩) (xpVr hK hP hS hE hFc xo_9 rfl) rfl rfl hl.1 rfl (lv_room (Nat.le_of_ble_eq_true rfl)) d_Deeds_numberWord_17 ⟨Nat.le_of_ble_eq_true rfl, Nat.le_of_ble_eq_true rfl⟩) hS (fun q _ h => hFc q h) hFc (fun r9 u9 t9 H locs ht hvm e9 hB hz1 hk1 hS => ?_)
  have e9 : r_5 = r9 := e9
  subst e9
  replace hP := x_keep hP hk1
  clear hFc hk1 hz1 hvm hB ht
  refine lv_iconst (v := 1) hx hb d_Deeds_numberWord_20 (by decide) ?_
  refine lv_ishr hx hb d_Deeds_numberWord_21 ?_
  refine lv_i2l hx hb d_Deeds_numberWord_22 rfl ?_
  refine lv_topl (fun x_6 ex_6 => ?_)
  replace hm := ob1_at ex_6 hm
  refine lv_lstore (lv' := [(4, .long x_6), (2, .long x_3), (0, .ref ((u 10))), (1, .int v1)]) hx hb d_Deeds_numberWord_23 hl (by decide) rfl (fun ls hl => ?_)
  refine lv_iload_n hx hb d_Deeds_numberWord_25 rfl (lv_at hl 3 rfl) ?_
  rcases Classical.em (v1 = 20) with c_7 | c_7
  · replace hm := if_t c_7 hm
    refine lv_tableIn (x := v1) (tgt := 88) hx hb d_Deeds_numberWord_26 (by rw [c_7]; decide) (by rw [c_7]; decide) (by rw [c_7]; rfl) (by decide) ?_
    refine lv_lload_n hx hb d_Deeds_numberWord_88 rfl (lv_at hl 1 rfl) ?_
    refine lv_lload hx hb d_Deeds_numberWord_89 (lv_at hl 0 rfl) ?_
    refine lv_ladd hx hb d_Deeds_numberWord_91 ?_
    obtain ⟨r_9, h_8, hm⟩ := ob0_some hm
    have hFc := x_free0 hS hA
    refine va_calli (va_runS (As := [.long (x_3 + x_6)]) (rest := []) ⟨hx, hb, hml, hown, hts⟩ (x_Deeds_inBounds l H.size n h_8) (va_cwS 1 hts (tw_GS tw_cons cw_Deeds_inBounds lk_Deeds_153 st_Deeds_inBounds ini_Deeds) rfl rfl rfl hd_Deeds_inBounds ⟨Nat.le_of_ble_eq_true rfl, Nat.le_of_ble_eq_true rfl⟩) xpS0 rfl rfl hl.1 rfl (lv_room (Nat.le_of_ble_eq_true rfl)) d_Deeds_numberWord_92 ⟨Nat.le_of_ble_eq_true rfl, Nat.le_of_ble_eq_true rfl⟩) hS (fun q _ h => hFc q h) hFc (fun r9 u9 t9 H locs ht hvm e9 hB hz1 hk1 hS => ?_)
    have e9 : r_9 = r9 := e9
    subst e9
    replace hP := x_keep hP hk1
    clear hFc hk1 hz1 hvm hB ht
    obtain ⟨e1i, e1a, e3⟩ := re3 hm
    obtain ⟨hP, hD⟩ := x_eq e1i e1a hP hD
    exact W.iret hx hb hr (fun t9 ht hW => ⟨⟨_, (), rfl, e3.symm, by rw [ht]; exact hP, hD⟩, hS.F ht⟩) hS.2.2 d_Deeds_numberWord_95
  replace hm := if_f c_7 hm
  rcases Classical.em (v1 = 21) with c_10 | c_10
  · replace hm := if_t c_10 hm
    refine lv_tableIn (x := v1) (tgt := 96) hx hb d_Deeds_numberWord_26 (by rw [c_10]; decide) (by rw [c_10]; decide) (by rw [c_10]; rfl) (by decide) ?_
    refine lv_lload_n hx hb d_Deeds_numberWord_96 rfl (lv_at hl 1 rfl) ?_
    refine lv_lload hx hb d_Deeds_numberWord_97 (lv_at hl 0 rfl) ?_
    refine lv_lsub hx hb d_Deeds_numberWord_99 ?_
    obtain ⟨r_12, h_11, hm⟩ := ob0_some hm
    have hFc := x_free0 hS hA
    refine va_calli (va_runS (As := [.long (x_3 - x_6)]) (rest := []) ⟨hx, hb, hml, hown, hts⟩ (x_Deeds_inBounds l H.size n h_11) (va_cwS 1 hts (tw_GS tw_cons cw_Deeds_inBounds lk_Deeds_153 st_Deeds_inBounds ini_Deeds) rfl rfl rfl hd_Deeds_inBounds ⟨Nat.le_of_ble_eq_true rfl, Nat.le_of_ble_eq_true rfl⟩) xpS0 rfl rfl hl.1 rfl (lv_room (Nat.le_of_ble_eq_true rfl)) d_Deeds_numberWord_100 ⟨Nat.le_of_ble_eq_true rfl, Nat.le_of_ble_eq_true rfl⟩) hS (fun q _ h => hFc q h) hFc (fun r9 u9 t9 H locs ht hvm e9 hB hz1 hk1 hS => ?_)
    have e9 : r_12 = r9 := e9
    subst e9
    replace hP := x_keep hP hk1
    clear hFc hk1 hz1 hvm hB ht
    obtain ⟨e1i, e1a, e3⟩ := re3 hm
    obtain ⟨hP, hD⟩ := x_eq e1i e1a hP hD
    exact W.iret hx hb hr (fun t9 ht hW => ⟨⟨_, (), rfl, e3.symm, by rw [ht]; exact hP, hD⟩, hS.F ht⟩) hS.2.2 d_Deeds_numberWord_103
  replace hm := if_f c_10 hm
  rcases Classical.em (v1 = 22) with c_13 | c_13
  · replace hm := if_t c_13 hm
    refine lv_tableIn (x := v1) (tgt := 104) hx hb d_Deeds_numberWord_26 (by rw [c_13]; decide) (by rw [c_13]; decide) (by rw [c_13]; rfl) (by decide) ?_
    refine lv_lload_n hx hb d_Deeds_numberWord_104 rfl (lv_at hl 1 rfl) ?_
    refine lv_lload hx hb d_Deeds_numberWord_105 (lv_at hl 0 rfl) ?_
    refine lv_lmul hx hb d_Deeds_numberWord_107 ?_
    obtain ⟨r_15, h_14, hm⟩ := ob0_some hm
    have hFc := x_free0 hS hA
    refine va_calli (va_runS (As := [.long (x_3 * x_6)]) (rest := []) ⟨hx, hb, hml, hown, hts⟩ (x_Deeds_inBounds l H.size n h_14) (va_cwS 1 hts (tw_GS tw_cons cw_Deeds_inBounds lk_Deeds_153 st_Deeds_inBounds ini_Deeds) rfl rfl rfl hd_Deeds_inBounds ⟨Nat.le_of_ble_eq_true rfl, Nat.le_of_ble_eq_true rfl⟩) xpS0 rfl rfl hl.1 rfl (lv_room (Nat.le_of_ble_eq_true rfl)) d_Deeds_numberWord_108 ⟨Nat.le_of_ble_eq_true rfl, Nat.le_of_ble_eq_true rfl⟩) hS (fun q _ h => hFc q h) hFc (fun r9 u9 t9 H locs ht hvm e9 hB hz1 hk1 hS => ?_)
    have e9 : r_15 = r9 := e9
    subst e9
    replace hP := x_keep hP hk1
    clear hFc hk1 hz1 hvm hB ht
    obtain ⟨e1i, e1a, e3⟩ := re3 hm
    obtain ⟨hP, hD⟩ := x_eq e1i e1a hP hD
    exact W.iret hx hb hr (fun t9 ht hW => ⟨⟨_, (), rfl, e3.symm, by rw [ht]; exact hP, hD⟩, hS.F ht⟩) hS.2.2 d_Deeds_numberWord_111
  replace hm := if_f c_13 hm
  rcases Classical.em (v1 = 23) with c_16 | c_16
  · replace hm := if_t c_16 hm
    refine lv_tableIn (x := v1) (tgt := 112) hx hb d_Deeds_numberWord_26 (by rw [c_16]; decide) (by rw [c_16]; decide) (by rw [c_16]; rfl) (by decide) ?_
    refine lv_lload hx hb d_Deeds_numberWord_112 (lv_at hl 0 rfl) ?_
    refine lv_lconst (v := 0) hx hb d_Deeds_numberWord_114 (by decide) ?_
    refine W.lcmp hx hb d_Deeds_numberWord_115 ?_
    refine lv_if_ne (tgt := 124) hx hb d_Deeds_numberWord_116 (by decide) (fun c_17 => ?_) (fun c_17 => ?_)
    · replace hm := if_f c_17 hm
      refine lv_lload_n hx hb d_Deeds_numberWord_124 rfl (lv_at hl 1 rfl) ?_
      refine lv_lload hx hb d_Deeds_numberWord_125 (lv_at hl 0 rfl) ?_
      obtain ⟨h_18, hm⟩ := czl_some hm
      refine lv_ldiv hx hb d_Deeds_numberWord_127 (h_18) ?_
      obtain ⟨r_20, h_19, hm⟩ := ob0_some hm
      have hFc := x_free0 hS hA
      refine va_calli (va_runS (As := [.long (x_3 / x_6)]) (rest := []) ⟨hx, hb, hml, hown, hts⟩ (x_Deeds_inBounds l H.size n h_19) (va_cwS 1 hts (tw_GS tw_cons cw_Deeds_inBounds lk_Deeds_153 st_Deeds_inBounds ini_Deeds) rfl rfl rfl hd_Deeds_inBounds ⟨Nat.le_of_ble_eq_true rfl, Nat.le_of_ble_eq_true rfl⟩) xpS0 rfl rfl hl.1 rfl (lv_room (Nat.le_of_ble_eq_true rfl)) d_Deeds_numberWord_128 ⟨Nat.le_of_ble_eq_true rfl, Nat.le_of_ble_eq_true rfl⟩) hS (fun q _ h => hFc q h) hFc (fun r9 u9 t9 H locs ht hvm e9 hB hz1 hk1 hS => ?_)
      have e9 : r_20 = r9 := e9
      subst e9
      replace hP := x_keep hP hk1
      clear hFc hk1 hz1 hvm hB ht
      obtain ⟨e1i, e1a, e3⟩ := re3 hm
      obtain ⟨hP, hD⟩ := x_eq e1i e1a hP hD
      exact W.iret hx hb hr (fun t9 ht hW => ⟨⟨_, (), rfl, e3.symm, by rw [ht]; exact hP, hD⟩, hS.F ht⟩) hS.2.2 d_Deeds_numberWord_131
    · replace hm := if_t c_17 hm
      refine lv_ldc (v := (-2147483638)) hx hb hown (htt _ lk_Deeds_157) d_Deeds_numberWord_119 ?_
      refine lv_goto (tgt := 131) hx hb d_Deeds_numberWord_121 (by decide) ?_
      obtain ⟨e1i, e1a, e3⟩ := re3 hm
      obtain ⟨hP, hD⟩ := x_eq e1i e1a hP hD
      exact W.iret hx hb hr (fun t9 ht hW => ⟨⟨_, (), rfl, e3.symm, by rw [ht]; exact hP, hD⟩, hS.F ht⟩) hS.2.2 d_Deeds_numberWord_131
  replace hm := if_f c_16 hm
  rcases Classical.em (v1 = 24) with c_21 | c_21
  · replace hm := if_t c_21 hm
    refine lv_tableIn (x := v1) (tgt := 132) hx hb d_Deeds_numberWord_26 (by rw [c_21]; decide) (by rw [c_21]; decide) (by rw [c_21]; rfl) (by decide) ?_
    refine lv_lload hx hb d_Deeds_numberWord_132 (lv_at hl 0 rfl) ?_
    refine lv_lconst (v := 0) hx hb d_Deeds_numberWord_134 (by decide) ?_
    refine W.lcmp hx hb d_Deeds_numberWord_135 ?_
    refine lv_if_ne (tgt := 144) hx hb d_Deeds_numberWord_136 (by decide) (fun c_22 => ?_) (fun c_22 => ?_)
    · replace hm := if_f c_22 hm
      refine lv_lload_n hx hb d_Deeds_numberWord_144 rfl (lv_at hl 1 rfl) ?_
      refine lv_lload hx hb d_Deeds_numberWord_145 (lv_at hl 0 rfl) ?_
      obtain ⟨h_23, hm⟩ := czl_some hm
      refine lv_lrem hx hb d_Deeds_numberWord_147 (h_23) ?_
      obtain ⟨r_25, h_24, hm⟩ := ob0_some hm
      have hFc := x_free0 hS hA
      refine va_calli (va_runS (As := [.long (x_3 - x_3 / x_6 * x_6)]) (rest := []) ⟨hx, hb, hml, hown, hts⟩ (x_Deeds_inBounds l H.size n h_24) (va_cwS 1 hts (tw_GS tw_cons cw_Deeds_inBounds lk_Deeds_153 st_Deeds_inBounds ini_Deeds) rfl rfl rfl hd_Deeds_inBounds ⟨Nat.le_of_ble_eq_true rfl, Nat.le_of_ble_eq_true rfl⟩) xpS0 rfl rfl hl.1 rfl (lv_room (Nat.le_of_ble_eq_true rfl)) d_Deeds_numberWord_148 ⟨Nat.le_of_ble_eq_true rfl, Nat.le_of_ble_eq_true rfl⟩) hS (fun q _ h => hFc q h) hFc (fun r9 u9 t9 H locs ht hvm e9 hB hz1 hk1 hS => ?_)
      have e9 : r_25 = r9 := e9
      subst e9
      replace hP := x_keep hP hk1
      clear hFc hk1 hz1 hvm hB ht
      obtain ⟨e1i, e1a, e3⟩ := re3 hm
      obtain ⟨hP, hD⟩ := x_eq e1i e1a hP hD
      exact W.iret hx hb hr (fun t9 ht hW => ⟨⟨_, (), rfl, e3.symm, by rw [ht]; exact hP, hD⟩, hS.F ht⟩) hS.2.2 d_Deeds_numberWord_151
    · replace hm := if_t c_22 hm
      refine lv_ldc (v := (-2147483638)) hx hb hown (htt _ lk_Deeds_157) d_Deeds_numberWord_139 ?_
      refine lv_goto (tgt := 151) hx hb d_Deeds_numberWord_141 (by decide) ?_
      obtain ⟨e1i, e1a, e3⟩ := re3 hm
      obtain ⟨hP, hD⟩ := x_eq e1i e1a hP hD
      exact W.iret hx hb hr (fun t9 ht hW => ⟨⟨_, (), rfl, e3.symm, by rw [ht]; exact hP, hD⟩, hS.F ht⟩) hS.2.2 d_Deeds_numberWord_151
  replace hm := if_f c_21 hm
  rcases Classical.em (v1 = 25) with c_26 | c_26
  · replace hm := if_t c_26 hm
    refine lv_tableIn (x := v1) (tgt := 152) hx hb d_Deeds_numberWord_26 (by rw [c_26]; decide) (by rw [c_26]; decide) (by rw [c_26]; rfl) (by decide) ?_
    refine lv_lload_n hx hb d_Deeds_numberWord_152 rfl (lv_at hl 1 rfl) ?_
    refine lv_lneg hx hb d_Deeds_numberWord_153 ?_
    obtain ⟨r_28, h_27, hm⟩ := ob0_some hm
    have hFc := x_free0 hS hA
    refine va_calli (va_runS (As := [.long (-x_3)]) (rest := []) ⟨hx, hb, hml, hown, hts⟩ (x_Deeds_inBounds l H.size n h_27) (va_cwS 1 hts (tw_GS tw_cons cw_Deeds_inBounds lk_Deeds_153 st_Deeds_inBounds ini_Deeds) rfl rfl rfl hd_Deeds_inBounds ⟨Nat.le_of_ble_eq_true rfl, Nat.le_of_ble_eq_true rfl⟩) xpS0 rfl rfl hl.1 rfl (lv_room (Nat.le_of_ble_eq_true rfl)) d_Deeds_numberWord_154 ⟨Nat.le_of_ble_eq_true rfl, Nat.le_of_ble_eq_true rfl⟩) hS (fun q _ h => hFc q h) hFc (fun r9 u9 t9 H locs ht hvm e9 hB hz1 hk1 hS => ?_)
    have e9 : r_28 = r9 := e9
    subst e9
    replace hP := x_keep hP hk1
    clear hFc hk1 hz1 hvm hB ht
    obtain ⟨e1i, e1a, e3⟩ := re3 hm
    obtain ⟨hP, hD⟩ := x_eq e1i e1a hP hD
    exact W.iret hx hb hr (fun t9 ht hW => ⟨⟨_, (), rfl, e3.symm, by rw [ht]; exact hP, hD⟩, hS.F ht⟩) hS.2.2 d_Deeds_numberWord_157
  replace hm := if_f c_26 hm
  rcases Classical.em (v1 = 26) with c_29 | c_29
  · replace hm := if_t c_29 hm
    refine lv_tableIn (x := v1) (tgt := 158) hx hb d_Deeds_numberWord_26 (by rw [c_29]; decide) (by rw [c_29]; decide) (by rw [c_29]; rfl) (by decide) ?_
    refine lv_aload_n hx hb d_Deeds_numberWord_158 rfl (lv_at hl 2 rfl) ?_
    refine va_get (D := (dC, dI)) (ci := 10) (v := .ref ((u 1))) (C := R_Deeds) (T := F_Deeds) (N := 8) hx hb htt iw_Deeds hown hK hP 10 xo_10 rfl 0 (Nat.le_of_ble_eq_true rfl) (htt _ lk_Deeds_15) (fun _ h9 => h9) xg_10_0 d_Deeds_numberWord_159 ?_
    refine lv_lload_n hx hb d_Deeds_numberWord_162 rfl (lv_at hl 1 rfl) ?_
    refine lv_lload hx hb d_Deeds_numberWord_163 (lv_at hl 0 rfl) ?_
    refine W.lcmp hx hb d_Deeds_numberWord_165 ?_
    refine lv_if_ge (tgt := 173) hx hb d_Deeds_numberWord_166 (by decide) (fun c_30 => ?_) (fun c_30 => ?_)
    · replace hm := if_t c_30 hm
      refine lv_iconst (v := 0) hx hb d_Deeds_numberWord_173 (by decide) ?_
      obtain ⟨r_32, h_31, hm⟩ := ob0_some hm
      have hFc := x_free0 hS hA
      refine va_calli (va_runV (As := [.int 0]) (rest := []) ⟨hx, hb, hml, hown, hts⟩ (x_Heap_truth l dC dI cI adK adV adA u o g H.size n h_31) (cwV 1 hts (tw_GV tw_cons cw_Heap_truth lk_Deeds_150 in_Heap_truth sel_Heap_truth ini_Heap) rfl rfl rfl ⟨rfl, hd_Heap_truth⟩ ⟨Nat.le_of_ble_eq_true rfl, Nat.le_of_ble_eq_true rfl⟩) (xpVr hK hP hS hE hFc xo_1 rfl) rfl rfl hl.1 rfl (lv_room (Nat.le_of_ble_eq_true rfl)) d_Deeds_numberWord_174 ⟨Nat.le_of_ble_eq_true rfl, Nat.le_of_ble_eq_true rfl⟩) hS (fun q _ h => hFc q h) hFc (fun r9 u9 t9 H locs ht hvm e9 hB hz1 hk1 hS => ?_)
      have e9 : r_32 = r9 := e9
      subst e9
      replace hP := x_keep hP hk1
      clear hFc hk1 hz1 hvm hB ht
      obtain ⟨e1i, e1a, e3⟩ := re3 hm
      obtain ⟨hP, hD⟩ := x_eq e1i e1a hP hD
      exact W.iret hx hb hr (fun t9 ht hW => ⟨⟨_, (), rfl, e3.symm, by rw [ht]; exact hP, hD⟩, hS.F ht⟩) hS.2.2 d_Deeds_numberWord_177
    · replace hm := if_f c_30 hm
      refine lv_iconst (v := 1) hx hb d_Deeds_numberWord_169 (by decide) ?_
      refine lv_goto (tgt := 174) hx hb d_Deeds_numberWord_170 (by decide) ?_
      obtain ⟨r_34, h_33, hm⟩ := ob0_some hm
      have hFc := x_free0 hS hA
      refine va_calli (va_runV (As := [.int 1]) (rest := []) ⟨hx, hb, hml, hown, hts⟩ (x_Heap_truth l dC dI cI adK adV adA u o g H.size n h_33) (cwV 1 hts (tw_GV tw_cons cw_Heap_truth lk_Deeds_150 in_Heap_truth sel_Heap_truth ini_Heap) rfl rfl rfl ⟨rfl, hd_Heap_truth⟩ ⟨Nat.le_of_ble_eq_true rfl, Nat.le_of_ble_eq_true rfl⟩) (xpVr hK hP hS hE hFc xo_1 rfl) rfl rfl hl.1 rfl (lv_room (Nat.le_of_ble_eq_true rfl)) d_Deeds_numberWord_174 ⟨Nat.le_of_ble_eq_true rfl, Nat.le_of_ble_eq_true rfl⟩) hS (fun q _ h => hFc q h) hFc (fun r9 u9 t9 H locs ht hvm e9 hB hz1 hk1 hS => ?_)
      have e9 : r_34 = r9 := e9
      subst e9
      replace hP := x_keep hP hk1
      clear hFc hk1 hz1 hvm hB ht
      obtain ⟨e1i, e1a, e3⟩ := re3 hm
      obtain ⟨hP, hD⟩ := x_eq e1i e1a hP hD
      exact W.iret hx hb hr (fun t9 ht hW => ⟨⟨_, (), rfl, e3.symm, by rw [ht]; exact hP, hD⟩, hS.F ht⟩) hS.2.2 d_Deeds_numberWord_177
  replace hm := if_f c_29 hm
  rcases Classical.em (v1 = 27) with c_35 | c_35
  · replace hm := if_t c_35 hm
    refine lv_tableIn (x := v1) (tgt := 178) hx hb d_Deeds_numberWord_26 (by rw [c_35]; decide) (by rw [c_35]; decide) (by rw [c_35]; rfl) (by decide) ?_
    refine lv_aload_n hx hb d_Deeds_numberWord_178 rfl (lv_at hl 2 rfl) ?_
    refine va_get (D := (dC, dI)) (ci := 10) (v := .ref ((u 1))) (C := R_Deeds) (T := F_Deeds) (N := 8) hx hb htt iw_Deeds hown hK hP 10 xo_10 rfl 0 (Nat.le_of_ble_eq_true rfl) (htt _ lk_Deeds_15) (fun _ h9 => h9) xg_10_0 d_Deeds_numberWord_179 ?_
    refine lv_lload_n hx hb d_Deeds_numberWord_182 rfl (lv_at hl 1 rfl) ?_
    refine lv_lload hx hb d_Deeds_numberWord_183 (lv_at hl 0 rfl) ?_
    refine W.lcmp hx hb d_Deeds_numberWord_185 ?_
    refine lv_if_le (tgt := 193) hx hb d_Deeds_numberWord_186 (by decide) (fun c_36 => ?_) (fun c_36 => ?_)
    · replace hm := if_t c_36 hm
      refine lv_iconst (v := 0) hx hb d_Deeds_numberWord_193 (by decide) ?_
      obtain ⟨r_38, h_37, hm⟩ := ob0_some hm
      have hFc := x_free0 hS hA
      refine va_calli (va_runV (As := [.int 0]) (rest := []) ⟨hx, hb, hml, hown, hts⟩ (x_Heap_truth l dC dI cI adK adV adA u o g H.size n h_37) (cwV 1 hts (tw_GV tw_cons cw_Heap_truth lk_Deeds_150 in_Heap_truth sel_Heap_truth ini_Heap) rfl rfl rfl ⟨rfl, hd_Heap_truth⟩ ⟨Nat.le_of_ble_eq_true rfl, Nat.le_of_ble_eq_true rfl⟩) (xpVr hK hP hS hE hFc xo_1 rfl) rfl rfl hl.1 rfl (lv_room (Nat.le_of_ble_eq_true rfl)) d_Deeds_numberWord_194 ⟨Nat.le_of_ble_eq_true rfl, Nat.le_of_ble_eq_true rfl⟩) hS (fun q _ h => hFc q h) hFc (fun r9 u9 t9 H locs ht hvm e9 hB hz1 hk1 hS => ?_)
      have e9 : r_38 = r9 := e9
      subst e9
      replace hP := x_keep hP hk1
      clear hFc hk1 hz1 hvm hB ht
      obtain ⟨e1i, e1a, e3⟩ := re3 hm
      obtain ⟨hP, hD⟩ := x_eq e1i e1a hP hD
      exact W.iret hx hb hr (fun t9 ht hW => ⟨⟨_, (), rfl, e3.symm, by rw [ht]; exact hP, hD⟩, hS.F ht⟩) hS.2.2 d_Deeds_numberWord_197
    · replace hm := if_f c_36 hm
      refine lv_iconst (v := 1) hx hb d_Deeds_numberWord_189 (by decide) ?_
      refine lv_goto (tgt := 194) hx hb d_Deeds_numberWord_190 (by decide) ?_
      obtain ⟨r_40, h_39, hm⟩ := ob0_some hm
      have hFc := x_free0 hS hA
      refine va_calli (va_runV (As := [.int 1]) (rest := []) ⟨hx, hb, hml, hown, hts⟩ (x_Heap_truth l dC dI cI adK adV adA u o g H.size n h_39) (cwV 1 hts (tw_GV tw_cons cw_Heap_truth lk_Deeds_150 in_Heap_truth sel_Heap_truth ini_Heap) rfl rfl rfl ⟨rfl, hd_Heap_truth⟩ ⟨Nat.le_of_ble_eq_true rfl, Nat.le_of_ble_eq_true rfl⟩) (xpVr hK hP hS hE hFc xo_1 rfl) rfl rfl hl.1 rfl (lv_room (Nat.le_of_ble_eq_true rfl)) d_Deeds_numberWord_194 ⟨Nat.le_of_ble_eq_true rfl, Nat.le_of_ble_eq_true rfl⟩) hS (fun q _ h => hFc q h) hFc (fun r9 u9 t9 H locs ht hvm e9 hB hz1 hk1 hS => ?_)
      have e9 : r_40 = r9 := e9
      subst e9
      replace hP := x_keep hP hk1
      clear hFc hk1 hz1 hvm hB ht
      obtain ⟨e1i, e1a, e3⟩ := re3 hm
      obtain ⟨hP, hD⟩ := x_eq e1i e1a hP hD
      exact W.iret hx hb hr (fun t9 ht hW => ⟨⟨_, (), rfl, e3.symm, by rw [ht]; exact hP, hD⟩, hS.F ht⟩) hS.2.2 d_Deeds_numberWord_197
  replace hm := if_f c_35 hm
  rcases Classical.em (v1 = 28) with c_41 | c_41
  · replace hm := if_t c_41 hm
    refine lv_tableIn (x := v1) (tgt := 198) hx hb d_Deeds_numberWord_26 (by rw [c_41]; decide) (by rw [c_41]; decide) (by rw [c_41]; rfl) (by decide) ?_
    refine lv_aload_n hx hb d_Deeds_numberWord_198 rfl (lv_at hl 2 rfl) ?_
    refine lv_lload_n hx hb d_Deeds_numberWord_199 rfl (lv_at hl 1 rfl) ?_
    refine lv_l2i hx hb d_Deeds_numberWord_200 rfl ?_
    obtain ⟨i_43, a_44, r_45, h_42, hm⟩ := ob_some hm
    have hFc := x_free hD hS hA
    refine va_calli (va_runV (As := [.int x_3.toInt32]) (rest := []) ⟨hx, hb, hml, hown, hts⟩ (x_Deeds_random l dC dI cI adK adV adA u o g H.size n h_42) (cwV 1 hts (tw_GV tw_cons cw_Deeds_random lk_Deeds_158 in_Deeds_random sel_Deeds_random ini_Deeds) rfl rfl rfl ⟨rfl, hd_Deeds_random⟩ ⟨Nat.le_of_ble_eq_true rfl, Nat.le_of_ble_eq_true rfl⟩) (xpV hK hP hD hS hE hFc xo_10 rfl) rfl rfl hl.1 rfl (lv_room (Nat.le_of_ble_eq_true rfl)) d_Deeds_numberWord_201 ⟨Nat.le_of_ble_eq_true rfl, Nat.le_of_ble_eq_true rfl⟩) hS (fun q _ h => hFc q h) hFc (fun r9 u9 t9 H locs ht hvm e9 hB hz1 hk1 hS => ?_)
    have e9 : r_45 = r9 := e9
    subst e9
    obtain ⟨hP, hD⟩ := x_aft hB ht hFc
    clear hFc hk1 hz1 hvm hB ht
    obtain ⟨e1i, e1a, e3⟩ := re3 hm
    obtain ⟨hP, hD⟩ := x_eq e1i e1a hP hD
    exact W.iret hx hb hr (fun t9 ht hW => ⟨⟨_, (), rfl, e3.symm, by rw [ht]; exact hP, hD⟩, hS.F ht⟩) hS.2.2 d_Deeds_numberWord_204
  replace hm := if_f c_41 hm
  rcases Classical.em (v1 = 29) with c_46 | c_46
  · replace hm := if_t c_46 hm
    refine lv_tableIn (x := v1) (tgt := 205) hx hb d_Deeds_numberWord_26 (by rw [c_46]; decide) (by rw [c_46]; decide) (by rw [c_46]; rfl) (by decide) ?_
    refine lv_aload_n hx hb d_Deeds_numberWord_205 rfl (lv_at hl 2 rfl) ?_
    refine va_get (D := (dC, dI)) (ci := 10) (v := .ref ((u 1))) (C := R_Deeds) (T := F_Deeds) (N := 8) hx hb htt iw_Deeds hown hK hP 10 xo_10 rfl 0 (Nat.le_of_ble_eq_true rfl) (htt _ lk_Deeds_15) (fun _ h9 => h9) xg_10_0 d_Deeds_numberWord_206 ?_
    refine lv_aload_n hx hb d_Deeds_numberWord_209 rfl (lv_at hl 2 rfl) ?_
    refine lv_iconst (v := 0) hx hb d_Deeds_numberWord_210 (by decide) ?_
    obtain ⟨r_48, h_47, hm⟩ := ob0_some hm
    have hFc := x_free0 hS hA
    refine va_calli (va_runV (As := [.int 0]) (rest := [.ref ((u 1))]) ⟨hx, hb, hml, hown, hts⟩ (x_Deeds_isTrue l dC dI cI adK adV adA u o g H.size n h_47) (cwV 1 hts (tw_GV tw_cons cw_Deeds_isTrue lk_Deeds_161 in_Deeds_isTrue sel_Deeds_isTrue ini_Deeds) rfl rfl rfl ⟨rfl, hd_Deeds_isTrue⟩ ⟨Nat.le_of_ble_eq_true rfl, Nat.le_of_ble_eq_true rfl⟩) (xpVr hK hP hS hE hFc xo_10 rfl) rfl rfl hl.1 rfl (lv_room (Nat.le_of_ble_eq_true rfl)) d_Deeds_numberWord_211 ⟨Nat.le_of_ble_eq_true rfl, Nat.le_of_ble_eq_true rfl⟩) hS (fun q _ h => hFc q h) hFc (fun r9 u9 t9 H locs ht hvm e9 hB hz1 hk1 hS => ?_)
    have e9 : r_48 = r9 := e9
    subst e9
    replace hP := x_keep hP hk1
    clear hFc hk1 hz1 hvm hB ht
    refine lv_if_eq (tgt := 229) hx hb d_Deeds_numberWord_214 (by decide) (fun c_49 => ?_) (fun c_49 => ?_)
    · replace hm := if_t c_49 hm
      refine lv_iconst (v := 0) hx hb d_Deeds_numberWord_229 (by decide) ?_
      obtain ⟨r_51, h_50, hm⟩ := ob0_some hm
      have hFc := x_free0 hS hA
      refine va_calli (va_runV (As := [.int 0]) (rest := []) ⟨hx, hb, hml, hown, hts⟩ (x_Heap_truth l dC dI cI adK adV adA u o g H.size n h_50) (cwV 1 hts (tw_GV tw_cons cw_Heap_truth lk_Deeds_150 in_Heap_truth sel_Heap_truth ini_Heap) rfl rfl rfl ⟨rfl, hd_Heap_truth⟩ ⟨Nat.le_of_ble_eq_true rfl, Nat.le_of_ble_eq_true rfl⟩) (xpVr hK hP hS hE hFc xo_1 rfl) rfl rfl hl.1 rfl (lv_room (Nat.le_of_ble_eq_true rfl)) d_Deeds_numberWord_230 ⟨Nat.le_of_ble_eq_true rfl, Nat.le_of_ble_eq_true rfl⟩) hS (fun q _ h => hFc q h) hFc (fun r9 u9 t9 H locs ht hvm e9 hB hz1 hk1 hS => ?_)
      have e9 : r_51 = r9 := e9
      subst e9
      replace hP := x_keep hP hk1
      clear hFc hk1 hz1 hvm hB ht
      obtain ⟨e1i, e1a, e3⟩ := re3 hm
      obtain ⟨hP, hD⟩ := x_eq e1i e1a hP hD
      exact W.iret hx hb hr (fun t9 ht hW => ⟨⟨_, (), rfl, e3.symm, by rw [ht]; exact hP, hD⟩, hS.F ht⟩) hS.2.2 d_Deeds_numberWord_233
    · replace hm := if_f c_49 hm
      refine lv_aload_n hx hb d_Deeds_numberWord_217 rfl (lv_at hl 2 rfl) ?_
      refine lv_iconst (v := 1) hx hb d_Deeds_numberWord_218 (by decide) ?_
      obtain ⟨r_53, h_52, hm⟩ := ob0_some hm
      have hFc := x_free0 hS hA
      refine va_calli (va_runV (As := [.int 1]) (rest := [.ref ((u 1))]) ⟨hx, hb, hml, hown, hts⟩ (x_Deeds_isTrue l dC dI cI adK adV adA u o g H.size n h_52) (cwV 1 hts (tw_GV tw_cons cw_Deeds_isTrue lk_Deeds_161 in_Deeds_isTrue sel_Deeds_isTrue ini_Deeds) rfl rfl rfl ⟨rfl, hd_Deeds_isTrue⟩ ⟨Nat.le_of_ble_eq_true rfl, Nat.le_of_ble_eq_true rfl⟩) (xpVr hK hP hS hE hFc xo_10 rfl) rfl rfl hl.1 rfl (lv_room (Nat.le_of_ble_eq_true rfl)) d_Deeds_numberWord_219 ⟨Nat.le_of_ble_eq_true rfl, Nat.le_of_ble_eq_true rfl⟩) hS (fun q _ h => hFc q h) hFc (fun r9 u9 t9 H locs ht hvm e9 hB hz1 hk1 hS => ?_)
      have e9 : r_53 = r9 := e9
      subst e9
      replace hP := x_keep hP hk1
      clear hFc hk1 hz1 hvm hB ht
      refine lv_if_eq (tgt := 229) hx hb d_Deeds_numberWord_222 (by decide) (fun c_54 => ?_) (fun c_54 => ?_)
      · replace hm := if_t c_54 hm
        refine lv_iconst (v := 0) hx hb d_Deeds_numberWord_229 (by decide) ?_
        obtain ⟨r_56, h_55, hm⟩ := ob0_some hm
        have hFc := x_free0 hS hA
        refine va_calli (va_runV (As := [.int 0]) (rest := []) ⟨hx, hb, hml, hown, hts⟩ (x_Heap_truth l dC dI cI adK adV adA u o g H.size n h_55) (cwV 1 hts (tw_GV tw_cons cw_Heap_truth lk_Deeds_150 in_Heap_truth sel_Heap_truth ini_Heap) rfl rfl rfl ⟨rfl, hd_Heap_truth⟩ ⟨Nat.le_of_ble_eq_true rfl, Nat.le_of_ble_eq_true rfl⟩) (xpVr hK hP hS hE hFc xo_1 rfl) rfl rfl hl.1 rfl (lv_room (Nat.le_of_ble_eq_true rfl)) d_Deeds_numberWord_230 ⟨Nat.le_of_ble_eq_true rfl, Nat.le_of_ble_eq_true rfl⟩) hS (fun q _ h => hFc q h) hFc (fun r9 u9 t9 H locs ht hvm e9 hB hz1 hk1 hS => ?_)
        have e9 : r_56 = r9 := e9
        subst e9
        replace hP := x_keep hP hk1
        clear hFc hk1 hz1 hvm hB ht
        obtain ⟨e1i, e1a, e3⟩ := re3 hm
        obtain ⟨hP, hD⟩ := x_eq e1i e1a hP hD
        exact W.iret hx hb hr (fun t9 ht hW => ⟨⟨_, (), rfl, e3.symm, by rw [ht]; exact hP, hD⟩, hS.F ht⟩) hS.2.2 d_Deeds_numberWord_233
      · replace hm := if_f c_54 hm
        refine lv_iconst (v := 1) hx hb d_Deeds_numberWord_225 (by decide) ?_
        refine lv_goto (tgt := 230) hx hb d_Deeds_numberWord_226 (by decide) ?_
        obtain ⟨r_58, h_57, hm⟩ := ob0_some hm
        have hFc := x_free0 hS hA
        refine va_calli (va_runV (As := [.int 1]) (rest := []) ⟨hx, hb, hml, hown, hts⟩ (x_Heap_truth l dC dI cI adK adV adA u o g H.size n h_57) (cwV 1 hts (tw_GV tw_cons cw_Heap_truth lk_Deeds_150 in_Heap_truth sel_Heap_truth ini_Heap) rfl rfl rfl ⟨rfl, hd_Heap_truth⟩ ⟨Nat.le_of_ble_eq_true rfl, Nat.le_of_ble_eq_true rfl⟩) (xpVr hK hP hS hE hFc xo_1 rfl) rfl rfl hl.1 rfl (lv_room (Nat.le_of_ble_eq_true rfl)) d_Deeds_numberWord_230 ⟨Nat.le_of_ble_eq_true rfl, Nat.le_of_ble_eq_true rfl⟩) hS (fun q _ h => hFc q h) hFc (fun r9 u9 t9 H locs ht hvm e9 hB hz1 hk1 hS => ?_)
        have e9 : r_58 = r9 := e9
        subst e9
        replace hP := x_keep hP hk1
        clear hFc hk1 hz1 hvm hB ht
        obtain ⟨e1i, e1a, e3⟩ := re3 hm
        obtain ⟨hP, hD⟩ := x_eq e1i e1a hP hD
        exact W.iret hx hb hr (fun t9 ht hW => ⟨⟨_, (), rfl, e3.symm, by rw [ht]; exact hP, hD⟩, hS.F ht⟩) hS.2.2 d_Deeds_numberWord_233
  replace hm := if_f c_46 hm
  rcases Classical.em (v1 = 30) with c_59 | c_59
  · replace hm := if_t c_59 hm
    refine lv_tableIn (x := v1) (tgt := 234) hx hb d_Deeds_numberWord_26 (by rw [c_59]; decide) (by rw [c_59]; decide) (by rw [c_59]; rfl) (by decide) ?_
    refine lv_aload_n hx hb d_Deeds_numberWord_234 rfl (lv_at hl 2 rfl) ?_
    refine va_get (D := (dC, dI)) (ci := 10) (v := .ref ((u 1))) (C := R_Deeds) (T := F_Deeds) (N := 8) hx hb htt iw_Deeds hown hK hP 10 xo_10 rfl 0 (Nat.le_of_ble_eq_true rfl) (htt _ lk_Deeds_15) (fun _ h9 => h9) xg_10_0 d_Deeds_numberWord_235 ?_
    refine lv_aload_n hx hb d_Deeds_numberWord_238 rfl (lv_at hl 2 rfl) ?_
    refine lv_iconst (v := 0) hx hb d_Deeds_numberWord_239 (by decide) ?_
    obtain ⟨r_61, h_60, hm⟩ := ob0_some hm
    have hFc := x_free0 hS hA
    refine va_calli (va_runV (As := [.int 0]) (rest := [.ref ((u 1))]) ⟨hx, hb, hml, hown, hts⟩ (x_Deeds_isTrue l dC dI cI adK adV adA u o g H.size n h_60) (cwV 1 hts (tw_GV tw_cons cw_Deeds_isTrue lk_Deeds_161 in_Deeds_isTrue sel_Deeds_isTrue ini_Deeds) rfl rfl rfl ⟨rfl, hd_Deeds_isTrue⟩ ⟨Nat.le_of_ble_eq_true rfl, Nat.le_of_ble_eq_true rfl⟩) (xpVr hK hP hS hE hFc xo_10 rfl) rfl rfl hl.1 rfl (lv_room (Nat.le_of_ble_eq_true rfl)) d_Deeds_numberWord_240 ⟨Nat.le_of_ble_eq_true rfl, Nat.le_of_ble_eq_true rfl⟩) hS (fun q _ h => hFc q h) hFc (fun r9 u9 t9 H locs ht hvm e9 hB hz1 hk1 hS => ?_)
    have e9 : r_61 = r9 := e9
    subst e9
    replace hP := x_keep hP hk1
    clear hFc hk1 hz1 hvm hB ht
    refine lv_if_ne (tgt := 254) hx hb d_Deeds_numberWord_243 (by decide) (fun c_62 => ?_) (fun c_62 => ?_)
    · replace hm := if_f c_62 hm
      refine lv_iconst (v := 1) hx hb d_Deeds_numberWord_254 (by decide) ?_
      refine lv_goto (tgt := 259) hx hb d_Deeds_numberWord_255 (by decide) ?_
      obtain ⟨r_64, h_63, hm⟩ := ob0_some hm
      have hFc := x_free0 hS hA
      refine va_calli (va_runV (As := [.int 1]) (rest := []) ⟨hx, hb, hml, hown, hts⟩ (x_Heap_truth l dC dI cI adK adV adA u o g H.size n h_63) (cwV 1 hts (tw_GV tw_cons cw_Heap_truth lk_Deeds_150 in_Heap_truth sel_Heap_truth ini_Heap) rfl rfl rfl ⟨rfl, hd_Heap_truth⟩ ⟨Nat.le_of_ble_eq_true rfl, Nat.le_of_ble_eq_true rfl⟩) (xpVr hK hP hS hE hFc xo_1 rfl) rfl rfl hl.1 rfl (lv_room (Nat.le_of_ble_eq_true rfl)) d_Deeds_numberWord_259 ⟨Nat.le_of_ble_eq_true rfl, Nat.le_of_ble_eq_true rfl⟩) hS (fun q _ h => hFc q h) hFc (fun r9 u9 t9 H locs ht hvm e9 hB hz1 hk1 hS => ?_)
      have e9 : r_64 = r9 := e9
      subst e9
      replace hP := x_keep hP hk1
      clear hFc hk1 hz1 hvm hB ht
      obtain ⟨e1i, e1a, e3⟩ := re3 hm
      obtain ⟨hP, hD⟩ := x_eq e1i e1a hP hD
      exact W.iret hx hb hr (fun t9 ht hW => ⟨⟨_, (), rfl, e3.symm, by rw [ht]; exact hP, hD⟩, hS.F ht⟩) hS.2.2 d_Deeds_numberWord_262
    · replace hm := if_t c_62 hm
      refine lv_aload_n hx hb d_Deeds_numberWord_246 rfl (lv_at hl 2 rfl) ?_
      refine lv_iconst (v := 1) hx hb d_Deeds_numberWord_247 (by decide) ?_
      obtain ⟨r_66, h_65, hm⟩ := ob0_some hm
      have hFc := x_free0 hS hA
      refine va_calli (va_runV (As := [.int 1]) (rest := [.ref ((u 1))]) ⟨hx, hb, hml, hown, hts⟩ (x_Deeds_isTrue l dC dI cI adK adV adA u o g H.size n h_65) (cwV 1 hts (tw_GV tw_cons cw_Deeds_isTrue lk_Deeds_161 in_Deeds_isTrue sel_Deeds_isTrue ini_Deeds) rfl rfl rfl ⟨rfl, hd_Deeds_isTrue⟩ ⟨Nat.le_of_ble_eq_true rfl, Nat.le_of_ble_eq_true rfl⟩) (xpVr hK hP hS hE hFc xo_10 rfl) rfl rfl hl.1 rfl (lv_room (Nat.le_of_ble_eq_true rfl)) d_Deeds_numberWord_248 ⟨Nat.le_of_ble_eq_true rfl, Nat.le_of_ble_eq_true rfl⟩) hS (fun q _ h => hFc q h) hFc (fun r9 u9 t9 H locs ht hvm e9 hB hz1 hk1 hS => ?_)
      have e9 : r_66 = r9 := e9
      subst e9
      replace hP := x_keep hP hk1
      clear hFc hk1 hz1 hvm hB ht
      refine lv_if_eq (tgt := 258) hx hb d_Deeds_numberWord_251 (by decide) (fun c_67 => ?_) (fun c_67 => ?_)
      · replace hm := if_t c_67 hm
        refine lv_iconst (v := 0) hx hb d_Deeds_numberWord_258 (by decide) ?_
        obtain ⟨r_69, h_68, hm⟩ := ob0_some hm
        have hFc := x_free0 hS hA
        refine va_calli (va_runV (As := [.int 0]) (rest := []) ⟨hx, hb, hml, hown, hts⟩ (x_Heap_truth l dC dI cI adK adV adA u o g H.size n h_68) (cwV 1 hts (tw_GV tw_cons cw_Heap_truth lk_Deeds_150 in_Heap_truth sel_Heap_truth ini_Heap) rfl rfl rfl ⟨rfl, hd_Heap_truth⟩ ⟨Nat.le_of_ble_eq_true rfl, Nat.le_of_ble_eq_true rfl⟩) (xpVr hK hP hS hE hFc xo_1 rfl) rfl rfl hl.1 rfl (lv_room (Nat.le_of_ble_eq_true rfl)) d_Deeds_numberWord_259 ⟨Nat.le_of_ble_eq_true rfl, Nat.le_of_ble_eq_true rfl⟩) hS (fun q _ h => hFc q h) hFc (fun r9 u9 t9 H locs ht hvm e9 hB hz1 hk1 hS => ?_)
        have e9 : r_69 = r9 := e9
        subst e9
        replace hP := x_keep hP hk1
        clear hFc hk1 hz1 hvm hB ht
        obtain ⟨e1i, e1a, e3⟩ := re3 hm
        obtain ⟨hP, hD⟩ := x_eq e1i e1a hP hD
        exact W.iret hx hb hr (fun t9 ht hW => ⟨⟨_, (), rfl, e3.symm, by rw [ht]; exact hP, hD⟩, hS.F ht⟩) hS.2.2 d_Deeds_numberWord_262
      · replace hm := if_f c_67 hm
        refine lv_iconst (v := 1) hx hb d_Deeds_numberWord_254 (by decide) ?_
        refine lv_goto (tgt := 259) hx hb d_Deeds_numberWord_255 (by decide) ?_
        obtain ⟨r_71, h_70, hm⟩ := ob0_some hm
        have hFc := x_free0 hS hA
        refine va_calli (va_runV (As := [.int 1]) (rest := []) ⟨hx, hb, hml, hown, hts⟩ (x_Heap_truth l dC dI cI adK adV adA u o g H.size n h_70) (cwV 1 hts (tw_GV tw_cons cw_Heap_truth lk_Deeds_150 in_Heap_truth sel_Heap_truth ini_Heap) rfl rfl rfl ⟨rfl, hd_Heap_truth⟩ ⟨Nat.le_of_ble_eq_true rfl, Nat.le_of_ble_eq_true rfl⟩) (xpVr hK hP hS hE hFc xo_1 rfl) rfl rfl hl.1 rfl (lv_room (Nat.le_of_ble_eq_true rfl)) d_Deeds_numberWord_259 ⟨Nat.le_of_ble_eq_true rfl, Nat.le_of_ble_eq_true rfl⟩) hS (fun q _ h => hFc q h) hFc (fun r9 u9 t9 H locs ht hvm e9 hB hz1 hk1 hS => ?_)
        have e9 : r_71 = r9 := e9
        subst e9
        replace hP := x_keep hP hk1
        clear hFc hk1 hz1 hvm hB ht
        obtain ⟨e1i, e1a, e3⟩ := re3 hm
        obtain ⟨hP, hD⟩ := x_eq e1i e1a hP hD
        exact W.iret hx hb hr (fun t9 ht hW => ⟨⟨_, (), rfl, e3.symm, by rw [ht]; exact hP, hD⟩, hS.F ht⟩) hS.2.2 d_Deeds_numberWord_262
  replace hm := if_f c_59 hm
  rcases Classical.em (v1 = 31) with c_72 | c_72
  · replace hm := if_t c_72 hm
    refine lv_tableIn (x := v1) (tgt := 263) hx hb d_Deeds_numberWord_26 (by rw [c_72]; decide) (by rw [c_72]; decide) (by rw [c_72]; rfl) (by decide) ?_
    refine lv_aload_n hx hb d_Deeds_numberWord_263 rfl (lv_at hl 2 rfl) ?_
    refine va_get (D := (dC, dI)) (ci := 10) (v := .ref ((u 1))) (C := R_Deeds) (T := F_Deeds) (N := 8) hx hb htt iw_Deeds hown hK hP 10 xo_10 rfl 0 (Nat.le_of_ble_eq_true rfl) (htt _ lk_Deeds_15) (fun _ h9 => h9) xg_10_0 d_Deeds_numberWord_264 ?_
    refine lv_aload_n hx hb d_Deeds_numberWord_267 rfl (lv_at hl 2 rfl) ?_
    refine lv_iconst (v := 0) hx hb d_Deeds_numberWord_268 (by decide) ?_
    obtain ⟨r_74, h_73, hm⟩ := ob0_some hm
    have hFc := x_free0 hS hA
    refine va_calli (va_runV (As := [.int 0]) (rest := [.ref ((u 1))]) ⟨hx, hb, hml, hown, hts⟩ (x_Deeds_isTrue l dC dI cI adK adV adA u o g H.size n h_73) (cwV 1 hts (tw_GV tw_cons cw_Deeds_isTrue lk_Deeds_161 in_Deeds_isTrue sel_Deeds_isTrue ini_Deeds) rfl rfl rfl ⟨rfl, hd_Deeds_isTrue⟩ ⟨Nat.le_of_ble_eq_true rfl, Nat.le_of_ble_eq_true rfl⟩) (xpVr hK hP hS hE hFc xo_10 rfl) rfl rfl hl.1 rfl (lv_room (Nat.le_of_ble_eq_true rfl)) d_Deeds_numberWord_269 ⟨Nat.le_of_ble_eq_true rfl, Nat.le_of_ble_eq_true rfl⟩) hS (fun q _ h => hFc q h) hFc (fun r9 u9 t9 H locs ht hvm e9 hB hz1 hk1 hS => ?_)
    have e9 : r_74 = r9 := e9
    subst e9
    replace hP := x_keep hP hk1
    clear hFc hk1 hz1 hvm hB ht
    refine lv_if_ne (tgt := 279) hx hb d_Deeds_numberWord_272 (by decide) (fun c_75 => ?_) (fun c_75 => ?_)
    · replace hm := if_f c_75 hm
      refine lv_iconst (v := 0) hx hb d_Deeds_numberWord_279 (by decide) ?_
      obtain ⟨r_77, h_76, hm⟩ := ob0_some hm
      have hFc := x_free0 hS hA
      refine va_calli (va_runV (As := [.int 0]) (rest := []) ⟨hx, hb, hml, hown, hts⟩ (x_Heap_truth l dC dI cI adK adV adA u o g H.size n h_76) (cwV 1 hts (tw_GV tw_cons cw_Heap_truth lk_Deeds_150 in_Heap_truth sel_Heap_truth ini_Heap) rfl rfl rfl ⟨rfl, hd_Heap_truth⟩ ⟨Nat.le_of_ble_eq_true rfl, Nat.le_of_ble_eq_true rfl⟩) (xpVr hK hP hS hE hFc xo_1 rfl) rfl rfl hl.1 rfl (lv_room (Nat.le_of_ble_eq_true rfl)) d_Deeds_numberWord_280 ⟨Nat.le_of_ble_eq_true rfl, Nat.le_of_ble_eq_true rfl⟩) hS (fun q _ h => hFc q h) hFc (fun r9 u9 t9 H locs ht hvm e9 hB hz1 hk1 hS => ?_)
      have e9 : r_77 = r9 := e9
      subst e9
      replace hP := x_keep hP hk1
      clear hFc hk1 hz1 hvm hB ht
      obtain ⟨e1i, e1a, e3⟩ := re3 hm
      obtain ⟨hP, hD⟩ := x_eq e1i e1a hP hD
      exact W.iret hx hb hr (fun t9 ht hW => ⟨⟨_, (), rfl, e3.symm, by rw [ht]; exact hP, hD⟩, hS.F ht⟩) hS.2.2 d_Deeds_numberWord_283
    · replace hm := if_t c_75 hm
      refine lv_iconst (v := 1) hx hb d_Deeds_numberWord_275 (by decide) ?_
      refine lv_goto (tgt := 280) hx hb d_Deeds_numberWord_276 (by decide) ?_
      obtain ⟨r_79, h_78, hm⟩ := ob0_some hm
      have hFc := x_free0 hS hA
      refine va_calli (va_runV (As := [.int 1]) (rest := []) ⟨hx, hb, hml, hown, hts⟩ (x_Heap_truth l dC dI cI adK adV adA u o g H.size n h_78) (cwV 1 hts (tw_GV tw_cons cw_Heap_truth lk_Deeds_150 in_Heap_truth sel_Heap_truth ini_Heap) rfl rfl rfl ⟨rfl, hd_Heap_truth⟩ ⟨Nat.le_of_ble_eq_true rfl, Nat.le_of_ble_eq_true rfl⟩) (xpVr hK hP hS hE hFc xo_1 rfl) rfl rfl hl.1 rfl (lv_room (Nat.le_of_ble_eq_true rfl)) d_Deeds_numberWord_280 ⟨Nat.le_of_ble_eq_true rfl, Nat.le_of_ble_eq_true rfl⟩) hS (fun q _ h => hFc q h) hFc (fun r9 u9 t9 H locs ht hvm e9 hB hz1 hk1 hS => ?_)
      have e9 : r_79 = r9 := e9
      subst e9
      replace hP := x_keep hP hk1
      clear hFc hk1 hz1 hvm hB ht
      obtain ⟨e1i, e1a, e3⟩ := re3 hm
      obtain ⟨hP, hD⟩ := x_eq e1i e1a hP hD
      exact W.iret hx hb hr (fun t9 ht hW => ⟨⟨_, (), rfl, e3.symm, by rw [ht]; exact hP, hD⟩, hS.F ht⟩) hS.2.2 d_Deeds_numberWord_283
  replace hm := if_f c_72 hm
  refine lv_tableOut (x := v1) (tgt := 284) hx hb d_Deeds_numberWord_26 (by have q0 := lv_neT c_7 (show (20 : Int32).toInt = 20 from by decide); have q1 := lv_neT c_10 (show (21 : Int32).toInt = 21 from by decide); have q2 := lv_neT c_13 (show (22 : Int32).toInt = 22 from by decide); have q3 := lv_neT c_16 (show (23 : Int32).toInt = 23 from by decide); have q4 := lv_neT c_21 (show (24 : Int32).toInt = 24 from by decide); have q5 := lv_neT c_26 (show (25 : Int32).toInt = 25 from by decide); have q6 := lv_neT c_29 (show (26 : Int32).toInt = 26 from by decide); have q7 := lv_neT c_35 (show (27 : Int32).toInt = 27 from by decide); have q8 := lv_neT c_41 (show (28 : Int32).toInt = 28 from by decide); have q9 := lv_neT c_46 (show (29 : Int32).toInt = 29 from by decide); have q10 := lv_neT c_59 (show (30 : Int32).toInt = 30 from by decide); have q11 := lv_neT c_72 (show (31 : Int32).toInt = 31 from by decide); omega) (by decide) ?_
  refine lv_ldc (v := (-2147483647)) hx hb hown (htt _ lk_Deeds_142) d_Deeds_numberWord_284 ?_
  obtain ⟨e1i, e1a, e3⟩ := re3 hm
  obtain ⟨hP, hD⟩ := x_eq e1i e1a hP hD
  exact W.iret hx hb hr (fun t9 ht hW => ⟨⟨_, (), rfl, e3.symm, by rw [ht]; exact hP, hD⟩, hS.F ht⟩) hS.2.2 d_Deeds_numberWord_286

def m_Heap_equal_b192 (n : Nat) (g : Nat → Nat) (rc_53 : (Nat → Int32) → (Nat → Nat → Int32) → Int32 → Int32 → Option ((Nat → Int32) × (Nat → Nat → Int32) × Int32)) (i : Nat → Int32) (a : Nat → Nat → Int32) (v3 : Int32) (v4 : Int32) : Option ((Nat → Int32) × (Nat → Nat → Int32) × Int32) := ob1 (v4 + 1 : Int32) (fun x_1 => rc_53 i a v3 x_1)
set_option maxHeartbeats 4000000 in
set_option maxRecDepth 100000 in
theorem lb_Heap_equal_192 (l : Launch) (dC : Nat → ClassId) (dI : Nat → Nat → Nat) (cI : ClassId) (adK adV adA u o g : Nat → Nat) (n : Nat) {p : Program} {e : Env} {s : State} {m : MethodId} {args : Array Value} {below : List Frame} {meth : Method} {c : Code} {A : Nat → Prop} (hx : p.tables.exec = Jvm.exec) (hb : c.code = b_Heap_equal) (hml : c.maxLocals = 8) (hown : s.vm.findClass R_Heap = some m.cls) (hts : ∀ w ∈ w_Heap_equal, w.before args s = true) (hK : va_K (dC, dI) classes [(cI, .int)] s) (hE : tw_E adK adV adA A s s.heap) (hA : ∀ q : Nat, s.heap.size ≤ q → A q) (hr : meth.sig.returnType = (some .boolean)) (hlocks : meth.locks = false) {i2 : Nat → Int32} {a2 : Nat → Nat → Int32} {r2 : Int32} (rc_53 : (Nat → Int32) → (Nat → Nat → Int32) → Int32 → Int32 → Option ((Nat → Int32) × (Nat → Nat → Int32) × Int32)) (Hrc_53 : ∀ (i : Nat → Int32) (a : Nat → Nat → Int32) (v3 : Int32) (v4 : Int32), rc_53 i a v3 v4 = some (i2, a2, r2) → ∀ (H : Heap) (locs : List Loc) (ls : Array Slot), va_P (dC, dI) classes (TW cI u o i a g) H → va_D A (TW cI u o i a g) → va_S A s.heap H locs → lv_has ls 8 [(0, .ref ((u 1))), (3, .int v3), (4, .int v4)] → W p l e ({ frames := 2, cells := 0, slots := 0, locals := 48 } : Room) s m args below meth c H locs 0 0 (MQ below (va_Qi (xR r2) (xB dC dI cI u o g i2 a2 A) A) args s 0 0 A) (F0 m 53 ls [])) (i : Nat → Int32) (a : Nat → Nat → Int32) (v3 : Int32) (v4 : Int32) (hm : m_Heap_equal_b192 n g rc_53 i a v3 v4 = some (i2, a2, r2)) : ∀ (H : Heap) (locs : List Loc) (ls : Array Slot), va_P (dC, dI) classes (TW cI u o i a g) H → va_D A (TW cI u o i a g) → va_S A s.heap H locs → lv_has ls 8 [(0, .ref ((u 1))), (3, .int v3), (4, .int v4)] → W p l e ({ frames := 2, cells := 0, slots := 0, locals := 48 } : Room) s m args below meth c H locs 0 0 (MQ below (va_Qi (xR r2) (xB dC dI cI u o g i2 a2 A) A) args s 0 0 A) (F0 m 192 ls []) := by
  have htt : ∀ w ∈ tw_T, w.before _ s = true := fun w h => hts w (List.mem_cons_of_mem _ h)
  intro H locs ls hP hD hS hl
  rw [m_Heap_equal_b192] at hm
  obtain ⟨x_1, ex_1⟩ : ∃ y9 : Int32, y9 = v4 + 1 := ⟨_, rfl⟩
  replace hm := ob1_at ex_1 hm
  refine lv_iinc (v := x_1) (lv' := [(4, .int x_1), (0, .ref ((u 1))), (3, .int v3)]) hx hb d_Heap_equal_192 hl (k := 2) rfl (by rw [ex_1]; rfl) (by decide) rfl (fun ls hl => ?_)
  refine lv_goto (tgt := 53) hx hb d_Heap_equal_195 (by decide) ?_
  exact Hrc_53 _ _ _ _ hm _ _ _ hP hD hS (lv_sub hl [1, 2, 0] rfl)
def m_Heap_equal_b53 (n : Nat) (g : Nat → Nat) : Nat → (Nat → Int32) → (Nat → Nat → Int32) → Int32 → Int32 → Option ((Nat → Int32) × (Nat → Nat → Int32) × Int32)
  | 0, _, _, _, _ => none
  | f + 1, i, a, v3, v4 => if ((1000000 : Int32)) ≤ v4 then some (i, a, 1) else if v3 ≤ ((0 : Int32)) then some (i, a, 1) else ck ((v3 - 1)) 700 (ob1 (a 4 (v3 - 1).toNatClampNeg : Int32) (fun x_4 => ck ((v3 - 1)) 700 (ob1 (sv a 4 (v3 - 1).toNatClampNeg (x_4 + 1) : Nat → Nat → Int32) (fun a_6 => ck ((v3 - 1)) 700 (ob0 (m_Heap_member n g i a_6 (a_6 2 (v3 - 1).toNatClampNeg) x_4) (fun r_9 => ck ((v3 - 1)) 700 (ob0 (m_Heap_member n g i a_6 (a_6 3 (v3 - 1).toNatClampNeg) x_4) (fun r_12 => if r_9 = ((-2147483648 : Int32)) then ob1 (v3 + (-1) : Int32) (fun x_29 => m_Heap_equal_b192 n g (m_Heap_equal_b53 n g f) i a_6 x_29 v4) else ob0 (m_Heap_alike n g i a_6 r_9 r_12) (fun r_15 => if r_15 = ((0 : Int32)) then some (i, a_6, 0) else ob0 (m_Heap_isList n r_9) (fun r_18 => if r_18 = ((0 : Int32)) then m_Heap_equal_b192 n g (m_Heap_equal_b53 n g f) i a_6 v3 v4 else if r_9 = r_12 then m_Heap_equal_b192 n g (m_Heap_equal_b53 n g f) i a_6 v3 v4 else if ((700 : Int32)) ≤ v3 then m_Heap_equal_b192 n g (m_Heap_equal_b53 n g f) i a_6 v3 v4 else ck v3 700 (ob1 (sv a_6 2 v3.toNatClampNeg r_9 : Nat → Nat → Int32) (fun a_23 => ck v3 700 (ob1 (sv a_23 3 v3.toNatClampNeg r_12 : Nat → Nat → Int32) (fun a_25 => ck v3 700 (ob1 (sv a_25 4 v3.toNatClampNeg 0 : Nat → Nat → Int32) (fun a_27 => ob1 (v3 + 1 : Int32) (fun x_28 => m_Heap_equal_b192 n g (m_Heap_equal_b53 n g f) i a_27 x_28 v4)))))))))))))))))
set_option maxHeartbeats 4000000 in
set_option maxRecDepth 100000 in
theorem lb_Heap_equal_53 (l : Launch) (dC : Nat → ClassId) (dI : Nat → Nat → Nat) (cI : ClassId) (adK adV adA u o g : Nat → Nat) (n : Nat) {p : Program} {e : Env} {s : State} {m : MethodId} {args : Array Value} {below : List Frame} {meth : Method} {c : Code} {A : Nat → Prop} (hx : p.tables.exec = Jvm.exec) (hb : c.code = b_Heap_equal) (hml : c.maxLocals = 8) (hown : s.vm.findClass R_Heap = some m.cls) (hts : ∀ w ∈ w_Heap_equal, w.before args s = true) (hK : va_K (dC, dI) classes [(cI, .int)] s) (hE : tw_E adK adV adA A s s.heap) (hA : ∀ q : Nat, s.heap.size ≤ q → A q) (hr : meth.sig.returnType = (some .boolean)) (hlocks : meth.locks = false) {i2 : Nat → Int32} {a2 : Nat → Nat → Int32} {r2 : Int32} : ∀ (f : Nat) (i : Nat → Int32) (a : Nat → Nat → Int32) (v3 : Int32) (v4 : Int32), m_Heap_equal_b53 n g f i a v3 v4 = some (i2, a2, r2) → ∀ (H : Heap) (locs : List Loc) (ls : Array Slot), va_P (dC, dI) classes (TW cI u o i a g) H → va_D A (TW cI u o i a g) → va_S A s.heap H locs → lv_has ls 8 [(0, .ref ((u 1))), (3, .int v3), (4, .int v4)] → W p l e ({ frames := 2, cells := 0, slots := 0, locals := 48 } : Room) s m args below meth c H locs 0 0 (MQ below (va_Qi (xR r2) (xB dC dI cI u o g i2 a2 A) A) args s 0 0 A) (F0 m 53 ls []) := by
  have htt : ∀ w ∈ tw_T, w.before _ s = true := fun w h => hts w (List.mem_cons_of_mem _ h)
  intro f
  induction f with
  | zero =>
    intro i a v3 v4 hm
    rw [m_Heap_equal_b53] at hm
    cases hm
  | succ f ih =>
    intro i a v3 v4 hm H locs ls hP hD hS hl
    rw [m_Heap_equal_b53] at hm
    refine lv_iload hx hb d_Heap_equal_53 (lv_at hl 2 rfl) ?_
    refine lv_ldc (v := 1000000) hx hb hown (htt _ lk_Heap_149) d_Heap_equal_55 ?_
    refine lv_icmp_ge (tgt := 198) hx hb d_Heap_equal_57 (by decide) (fun c_1 => ?_) (fun c_1 => ?_)
    · replace hm := if_t c_1 hm
      refine lv_iconst (v := 1) hx hb d_Heap_equal_198 (by decide) ?_
      obtain ⟨e1i, e1a, e3⟩ := re3 hm
      obtain ⟨hP, hD⟩ := x_eq e1i e1a hP hD
      exact W.zret hx hb hr (by decide) (fun t9 ht hW => ⟨⟨_, (), rfl, e3.symm, by rw [ht]; exact hP, hD⟩, hS.F ht⟩) hS.2.2 d_Heap_equal_199
    · replace hm := if_f c_1 hm
      refine lv_iload_n hx hb d_Heap_equal_60 rfl (lv_at hl 1 rfl) ?_
      refine lv_if_le (tgt := 198) hx hb d_Heap_equal_61 (by decide) (fun c_2 => ?_) (fun c_2 => ?_)
      · replace hm := if_t c_2 hm
        refine lv_iconst (v := 1) hx hb d_Heap_equal_198 (by decide) ?_
        obtain ⟨e1i, e1a, e3⟩ := re3 hm
        obtain ⟨hP, hD⟩ := x_eq e1i e1a hP hD
        exact W.zret hx hb hr (by decide) (fun t9 ht hW => ⟨⟨_, (), rfl, e3.symm, by rw [ht]; exact hP, hD⟩, hS.F ht⟩) hS.2.2 d_Heap_equal_199
      · replace hm := if_f c_2 hm
        refine lv_aload_n hx hb d_Heap_equal_64 rfl (lv_at hl 0 rfl) ?_
        refine va_get (D := (dC, dI)) (ci := 1) (v := .ref ((u 14))) (C := R_Heap) (T := F_Heap) (N := 12) hx hb htt iw_Heap hown hK hP 1 xo_1 rfl 11 (Nat.le_of_ble_eq_true rfl) (htt _ lk_Heap_28) (fun _ h9 => h9) xg_1_11 d_Heap_equal_65 ?_
        refine lv_iload_n hx hb d_Heap_equal_68 rfl (lv_at hl 1 rfl) ?_
        refine lv_iconst (v := 1) hx hb d_Heap_equal_69 (by decide) ?_
        refine lv_isub hx hb d_Heap_equal_70 ?_
        obtain ⟨h_3, hm⟩ := ck_some hm
        refine va_iald hx hb hK hP 16 0 twA_4 rfl h_3 d_Heap_equal_71 ?_
        refine lv_topi (fun x_4 ex_4 => ?_)
        replace hm := ob1_at ex_4 hm
        refine lv_istore (lv' := [(5, .int x_4), (0, .ref ((u 1))), (3, .int v3), (4, .int v4)]) hx hb d_Heap_equal_72 hl (by decide) rfl (fun ls hl => ?_)
        refine lv_aload_n hx hb d_Heap_equal_74 rfl (lv_at hl 1 rfl) ?_
        refine va_get (D := (dC, dI)) (ci := 1) (v := .ref ((u 14))) (C := R_Heap) (T := F_Heap) (N := 12) hx hb htt iw_Heap hown hK hP 1 xo_1 rfl 11 (Nat.le_of_ble_eq_true rfl) (htt _ lk_Heap_28) (fun _ h9 => h9) xg_1_11 d_Heap_equal_75 ?_
        refine lv_iload_n hx hb d_Heap_equal_78 rfl (lv_at hl 2 rfl) ?_
        refine lv_iconst (v := 1) hx hb d_Heap_equal_79 (by decide) ?_
        refine lv_isub hx hb d_Heap_equal_80 ?_
        refine lv_iload hx hb d_Heap_equal_81 (lv_at hl 0 rfl) ?_
        refine lv_iconst (v := 1) hx hb d_Heap_equal_83 (by decide) ?_
        refine lv_iadd hx hb d_Heap_equal_84 ?_
        obtain ⟨h_5, hm⟩ := ck_some hm
        refine va_iast hx hb hK hP hD hS 16 0 twA_4 rfl h_5 d_Heap_equal_85 (fun H locs hP hD hS => ?_)
        obtain ⟨a_6, ea_6⟩ : ∃ y9 : Nat → Nat → Int32, y9 = sv a 4 (v3 - 1).toNatClampNeg (x_4 + 1) := ⟨_, rfl⟩
        replace hm := ob1_at ea_6 hm
        obtain ⟨hP, hD⟩ := xv_4 ea_6 hP hD
        refine lv_aload_n hx hb d_Heap_equal_86 rfl (lv_at hl 1 rfl) ?_
        refine lv_aload_n hx hb d_Heap_equal_87 rfl (lv_at hl 1 rfl) ?_
        refine va_get (D := (dC, dI)) (ci := 1) (v := .ref ((u 12))) (C := R_Heap) (T := F_Heap) (N := 12) hx hb htt iw_Heap hown hK hP 1 xo_1 rfl 9 (Nat.le_of_ble_eq_true rfl) (htt _ lk_Heap_22) (fun _ h9 => h9) xg_1_9 d_Heap_equal_88 ?_
        refine lv_iload_n hx hb d_Heap_equal_91 rfl (lv_at hl 2 rfl) ?_
        refine lv_iconst (v := 1) hx hb d_Heap_equal_92 (by decide) ?_
        refine lv_isub hx hb d_Heap_equal_93 ?_
        obtain ⟨h_7, hm⟩ := ck_some hm
        refine va_iald hx hb hK hP 14 0 twA_2 rfl h_7 d_Heap_equal_94 ?_
        refine lv_iload hx hb d_Heap_equal_95 (lv_at hl 0 rfl) ?_
        obtain ⟨r_9, h_8, hm⟩ := ob0_some hm
        have hFc := x_free0 hS hA
        refine va_calli (va_runV (As := [.int (a_6 2 (v3 - 1).toNatClampNeg), .int x_4]) (rest := []) ⟨hx, hb, hml, hown, hts⟩ (x_Heap_member l dC dI cI adK adV adA u o g H.size n h_8) (cwV 2 hts (tw_GV tw_cons cw_Heap_member lk_Heap_150 in_Heap_member sel_Heap_member ini_Heap) rfl rfl rfl ⟨rfl, hd_Heap_member⟩ ⟨Nat.le_of_ble_eq_true rfl, Nat.le_of_ble_eq_true rfl⟩) (xpVr hK hP hS hE hFc xo_1 rfl) rfl rfl hl.1 rfl (lv_room (Nat.le_of_ble_eq_true rfl)) d_Heap_equal_97 ⟨Nat.le_of_ble_eq_true rfl, Nat.le_of_ble_eq_true rfl⟩) hS (fun q _ h => hFc q h) hFc (fun r9 u9 t9 H locs ht hvm e9 hB hz1 hk1 hS => ?_)
        have e9 : r_9 = r9 := e9
        subst e9
        replace hP := x_keep hP hk1
        clear hFc hk1 hz1 hvm hB ht
        refine lv_istore (lv' := [(6, .int r_9), (5, .int x_4), (0, .ref ((u 1))), (3, .int v3), (4, .int v4)]) hx hb d_Heap_equal_100 hl (by decide) rfl (fun ls hl => ?_)
        refine lv_aload_n hx hb d_Heap_equal_102 rfl (lv_at hl 2 rfl) ?_
        refine lv_aload_n hx hb d_Heap_equal_103 rfl (lv_at hl 2 rfl) ?_
        refine va_get (D := (dC, dI)) (ci := 1) (v := .ref ((u 13))) (C := R_Heap) (T := F_Heap) (N := 12) hx hb htt iw_Heap hown hK hP 1 xo_1 rfl 10 (Nat.le_of_ble_eq_true rfl) (htt _ lk_Heap_25) (fun _ h9 => h9) xg_1_10 d_Heap_equal_104 ?_
        refine lv_iload_n hx hb d_Heap_equal_107 rfl (lv_at hl 3 rfl) ?_
        refine lv_iconst (v := 1) hx hb d_Heap_equal_108 (by decide) ?_
        refine lv_isub hx hb d_Heap_equal_109 ?_
        obtain ⟨h_10, hm⟩ := ck_some hm
        refine va_iald hx hb hK hP 15 0 twA_3 rfl h_10 d_Heap_equal_110 ?_
        refine lv_iload hx hb d_Heap_equal_111 (lv_at hl 1 rfl) ?_
        obtain ⟨r_12, h_11, hm⟩ := ob0_some hm
        have hFc := x_free0 hS hA
        refine va_calli (va_runV (As := [.int (a_6 3 (v3 - 1).toNatClampNeg), .int x_4]) (rest := []) ⟨hx, hb, hml, hown, hts⟩ (x_Heap_member l dC dI cI adK adV adA u o g H.size n h_11) (cwV 2 hts (tw_GV tw_cons cw_Heap_member lk_Heap_150 in_Heap_member sel_Heap_member ini_Heap) rfl rfl rfl ⟨rfl, hd_Heap_member⟩ ⟨Nat.le_of_ble_eq_true rfl, Nat.le_of_ble_eq_true rfl⟩) (xpVr hK hP hS hE hFc xo_1 rfl) rfl rfl hl.1 rfl (lv_room (Nat.le_of_ble_eq_true rfl)) d_Heap_equal_113 ⟨Nat.le_of_ble_eq_true rfl, Nat.le_of_ble_eq_true rfl⟩) hS (fun q _ h => hFc q h) hFc (fun r9 u9 t9 H locs ht hvm e9 hB hz1 hk1 hS => ?_)
        have e9 : r_12 = r9 := e9
        subst e9
        replace hP := x_keep hP hk1
        clear hFc hk1 hz1 hvm hB ht
        refine lv_istore (lv' := [(7, .int r_12), (6, .int r_9), (5, .int x_4), (0, .ref ((u 1))), (3, .int v3), (4, .int v4)]) hx hb d_Heap_equal_116 hl (by decide) rfl (fun ls hl => ?_)
        refine lv_iload hx hb d_Heap_equal_118 (lv_at hl 1 rfl) ?_
        refine lv_ldc (v := (-2147483648)) hx hb hown (htt _ lk_Heap_71) d_Heap_equal_120 ?_
        refine lv_icmp_ne (tgt := 131) hx hb d_Heap_equal_122 (by decide) (fun c_13 => ?_) (fun c_13 => ?_)
        · replace hm := if_f c_13 hm
          refine lv_aload_n hx hb d_Heap_equal_131 rfl (lv_at hl 3 rfl) ?_
          refine lv_iload hx hb d_Heap_equal_132 (lv_at hl 1 rfl) ?_
          refine lv_iload hx hb d_Heap_equal_134 (lv_at hl 0 rfl) ?_
          obtain ⟨r_15, h_14, hm⟩ := ob0_some hm
          have hFc := x_free0 hS hA
          refine va_calli (va_runV (As := [.int r_9, .int r_12]) (rest := []) ⟨hx, hb, hml, hown, hts⟩ (x_Heap_alike l dC dI cI adK adV adA u o g H.size n h_14) (cwV 2 hts (tw_GV tw_cons cw_Heap_alike lk_Heap_146 in_Heap_alike sel_Heap_alike ini_Heap) rfl rfl rfl ⟨rfl, hd_Heap_alike⟩ ⟨Nat.le_of_ble_eq_true rfl, Nat.le_of_ble_eq_true rfl⟩) (xpVr hK hP hS hE hFc xo_1 rfl) rfl rfl hl.1 rfl (lv_room (Nat.le_of_ble_eq_true rfl)) d_Heap_equal_136 ⟨Nat.le_of_ble_eq_true rfl, Nat.le_of_ble_eq_true rfl⟩) hS (fun q _ h => hFc q h) hFc (fun r9 u9 t9 H locs ht hvm e9 hB hz1 hk1 hS => ?_)
          have e9 : r_15 = r9 := e9
          subst e9
          replace hP := x_keep hP hk1
          clear hFc hk1 hz1 hvm hB ht
          refine lv_if_ne (tgt := 144) hx hb d_Heap_equal_139 (by decide) (fun c_16 => ?_) (fun c_16 => ?_)
          · replace hm := if_f c_16 hm
            refine lv_iload hx hb d_Heap_equal_144 (lv_at hl 1 rfl) ?_
            obtain ⟨r_18, h_17, hm⟩ := ob0_some hm
            have hFc := x_free0 hS hA
            refine va_calli (va_runS (As := [.int r_9]) (rest := []) ⟨hx, hb, hml, hown, hts⟩ (x_Heap_isList l H.size n h_17) (va_cwS 1 hts (tw_GS tw_cons cw_Heap_isList lk_Heap_143 st_Heap_isList ini_Heap) rfl rfl rfl hd_Heap_isList ⟨Nat.le_of_ble_eq_true rfl, Nat.le_of_ble_eq_true rfl⟩) xpS0 rfl rfl hl.1 rfl (lv_room (Nat.le_of_ble_eq_true rfl)) d_Heap_equal_146 ⟨Nat.le_of_ble_eq_true rfl, Nat.le_of_ble_eq_true rfl⟩) hS (fun q _ h => hFc q h) hFc (fun r9 u9 t9 H locs ht hvm e9 hB hz1 hk1 hS => ?_)
            have e9 : r_18 = r9 := e9
            subst e9
            replace hP := x_keep hP hk1
            clear hFc hk1 hz1 hvm hB ht
            refine lv_if_eq (tgt := 192) hx hb d_Heap_equal_149 (by decide) (fun c_19 => ?_) (fun c_19 => ?_)
            · replace hm := if_t c_19 hm
              exact lb_Heap_equal_192 l dC dI cI adK adV adA u o g n hx hb hml hown hts hK hE hA hr hlocks (m_Heap_equal_b53 n g f) ih _ _ _ _ hm _ _ _ hP hD hS (lv_sub hl [3, 4, 5] rfl)
            · replace hm := if_f c_19 hm
              refine lv_iload hx hb d_Heap_equal_152 (lv_at hl 1 rfl) ?_
              refine lv_iload hx hb d_Heap_equal_154 (lv_at hl 0 rfl) ?_
              refine lv_icmp_eq (tgt := 192) hx hb d_Heap_equal_156 (by decide) (fun c_20 => ?_) (fun c_20 => ?_)
              · replace hm := if_t c_20 hm
                exact lb_Heap_equal_192 l dC dI cI adK adV adA u o g n hx hb hml hown hts hK hE hA hr hlocks (m_Heap_equal_b53 n g f) ih _ _ _ _ hm _ _ _ hP hD hS (lv_sub hl [3, 4, 5] rfl)
              · replace hm := if_f c_20 hm
                refine lv_iload_n hx hb d_Heap_equal_159 rfl (lv_at hl 4 rfl) ?_
                refine lv_sipush (v := 700) hx hb d_Heap_equal_160 (by decide) ?_
                refine lv_icmp_ge (tgt := 192) hx hb d_Heap_equal_163 (by decide) (fun c_21 => ?_) (fun c_21 => ?_)
                · replace hm := if_t c_21 hm
                  exact lb_Heap_equal_192 l dC dI cI adK adV adA u o g n hx hb hml hown hts hK hE hA hr hlocks (m_Heap_equal_b53 n g f) ih _ _ _ _ hm _ _ _ hP hD hS (lv_sub hl [3, 4, 5] rfl)
                · replace hm := if_f c_21 hm
                  refine lv_aload_n hx hb d_Heap_equal_166 rfl (lv_at hl 3 rfl) ?_
                  refine va_get (D := (dC, dI)) (ci := 1) (v := .ref ((u 12))) (C := R_Heap) (T := F_Heap) (N := 12) hx hb htt iw_Heap hown hK hP 1 xo_1 rfl 9 (Nat.le_of_ble_eq_true rfl) (htt _ lk_Heap_22) (fun _ h9 => h9) xg_1_9 d_Heap_equal_167 ?_
                  refine lv_iload_n hx hb d_Heap_equal_170 rfl (lv_at hl 4 rfl) ?_
                  refine lv_iload hx hb d_Heap_equal_171 (lv_at hl 1 rfl) ?_
                  obtain ⟨h_22, hm⟩ := ck_some hm
                  refine va_iast hx hb hK hP hD hS 14 0 twA_2 rfl h_22 d_Heap_equal_173 (fun H locs hP hD hS => ?_)
                  obtain ⟨a_23, ea_23⟩ : ∃ y9 : Nat → Nat → Int32, y9 = sv a_6 2 v3.toNatClampNeg r_9 := ⟨_, rfl⟩
                  replace hm := ob1_at ea_23 hm
                  obtain ⟨hP, hD⟩ := xv_2 ea_23 hP hD
                  refine lv_aload_n hx hb d_Heap_equal_174 rfl (lv_at hl 3 rfl) ?_
                  refine va_get (D := (dC, dI)) (ci := 1) (v := .ref ((u 13))) (C := R_Heap) (T := F_Heap) (N := 12) hx hb htt iw_Heap hown hK hP 1 xo_1 rfl 10 (Nat.le_of_ble_eq_true rfl) (htt _ lk_Heap_25) (fun _ h9 => h9) xg_1_10 d_Heap_equal_175 ?_
                  refine lv_iload_n hx hb d_Heap_equal_178 rfl (lv_at hl 4 rfl) ?_
                  refine lv_iload hx hb d_Heap_equal_179 (lv_at hl 0 rfl) ?_
                  obtain ⟨h_24, hm⟩ := ck_some hm
                  refine va_iast hx hb hK hP hD hS 15 0 twA_3 rfl h_24 d_Heap_equal_181 (fun H locs hP hD hS => ?_)
                  obtain ⟨a_25, ea_25⟩ : ∃ y9 : Nat → Nat → Int32, y9 = sv a_23 3 v3.toNatClampNeg r_12 := ⟨_, rfl⟩
                  replace hm := ob1_at ea_25 hm
                  obtain ⟨hP, hD⟩ := xv_3 ea_25 hP hD
                  refine lv_aload_n hx hb d_Heap_equal_182 rfl (lv_at hl 3 rfl) ?_
                  refine va_get (D := (dC, dI)) (ci := 1) (v := .ref ((u 14))) (C := R_Heap) (T := F_Heap) (N := 12) hx hb htt iw_Heap hown hK hP 1 xo_1 rfl 11 (Nat.le_of_ble_eq_true rfl) (htt _ lk_Heap_28) (fun _ h9 => h9) xg_1_11 d_Heap_equal_183 ?_
                  refine lv_iload_n hx hb d_Heap_equal_186 rfl (lv_at hl 4 rfl) ?_
                  refine lv_iconst (v := 0) hx hb d_Heap_equal_187 (by decide) ?_
                  obtain ⟨h_26, hm⟩ := ck_some hm
                  refine va_iast hx hb hK hP hD hS 16 0 twA_4 rfl h_26 d_Heap_equal_188 (fun H locs hP hD hS => ?_)
                  obtain ⟨a_27, ea_27⟩ : ∃ y9 : Nat → Nat → Int32, y9 = sv a_25 4 v3.toNatClampNeg 0 := ⟨_, rfl⟩
                  replace hm := ob1_at ea_27 hm
                  obtain ⟨hP, hD⟩ := xv_4 ea_27 hP hD
                  obtain ⟨x_28, ex_28⟩ : ∃ y9 : Int32, y9 = v3 + 1 := ⟨_, rfl⟩
                  replace hm := ob1_at ex_28 hm
                  refine lv_iinc (v := x_28) (lv' := [(3, .int x_28), (7, .int r_12), (6, .int r_9), (5, .int x_4), (0, .ref ((u 1))), (4, .int v4)]) hx hb d_Heap_equal_189 hl (k := 4) rfl (by rw [ex_28]; rfl) (by decide) rfl (fun ls hl => ?_)
                  exact lb_Heap_equal_192 l dC dI cI adK adV adA u o g n hx hb hml hown hts hK hE hA hr hlocks (m_Heap_equal_b53 n g f) ih _ _ _ _ hm _ _ _ hP hD hS (lv_sub hl [4, 0, 5] rfl)
          · replace hm := if_t c_16 hm
            refine lv_iconst (v := 0) hx hb d_Heap_equal_142 (by decide) ?_
            obtain ⟨e1i, e1a, e3⟩ := re3 hm
            obtain ⟨hP, hD⟩ := x_eq e1i e1a hP hD
            exact W.zret hx hb hr (by decide) (fun t9 ht hW => ⟨⟨_, (), rfl, e3.symm, by rw [ht]; exact hP, hD⟩, hS.F ht⟩) hS.2.2 d_Heap_equal_143
        · replace hm := if_t c_13 hm
          obtain ⟨x_29, ex_29⟩ : ∃ y9 : Int32, y9 = v3 + (-1) := ⟨_, rfl⟩
          replace hm := ob1_at ex_29 hm
          refine lv_iinc (v := x_29) (lv' := [(3, .int x_29), (7, .int r_12), (6, .int r_9), (5, .int x_4), (0, .ref ((u 1))), (4, .int v4)]) hx hb d_Heap_equal_125 hl (k := 4) rfl (by rw [ex_29]; rfl) (by decide) rfl (fun ls hl => ?_)
          refine lv_goto (tgt := 192) hx hb d_Heap_equal_128 (by decide) ?_
          exact lb_Heap_equal_192 l dC dI cI adK adV adA u o g n hx hb hml hown hts hK hE hA hr hlocks (m_Heap_equal_b53 n g f) ih _ _ _ _ hm _ _ _ hP hD hS (lv_sub hl [4, 0, 5] rfl)
def m_Heap_equal_b49 (n : Nat) (g : Nat → Nat) (i : Nat → Int32) (a : Nat → Nat → Int32) (s0 : Int32) : Option ((Nat → Int32) × (Nat → Nat → Int32) × Int32) := m_Heap_equal_b53 n g n i a s0 (0 : Int32)
set_option maxHeartbeats 4000000 in
set_option maxRecDepth 100000 in
theorem lb_Heap_equal_49 (l : Launch) (dC : Nat → ClassId) (dI : Nat → Nat → Nat) (cI : ClassId) (adK adV adA u o g : Nat → Nat) (n : Nat) {p : Program} {e : Env} {s : State} {m : MethodId} {args : Array Value} {below : List Frame} {meth : Method} {c : Code} {A : Nat → Prop} (hx : p.tables.exec = Jvm.exec) (hb : c.code = b_Heap_equal) (hml : c.maxLocals = 8) (hown : s.vm.findClass R_Heap = some m.cls) (hts : ∀ w ∈ w_Heap_equal, w.before args s = true) (hK : va_K (dC, dI) classes [(cI, .int)] s) (hE : tw_E adK adV adA A s s.heap) (hA : ∀ q : Nat, s.heap.size ≤ q → A q) (hr : meth.sig.returnType = (some .boolean)) (hlocks : meth.locks = false) {i2 : Nat → Int32} {a2 : Nat → Nat → Int32} {r2 : Int32} (i : Nat → Int32) (a : Nat → Nat → Int32) (s0 : Int32) (hm : m_Heap_equal_b49 n g i a s0 = some (i2, a2, r2)) : ∀ (H : Heap) (locs : List Loc) (ls : Array Slot), va_P (dC, dI) classes (TW cI u o i a g) H → va_D A (TW cI u o i a g) → va_S A s.heap H locs → lv_has ls 8 [(0, .ref ((u 1)))] → W p l e ({ frames := 2, cells := 0, slots := 0, locals := 48 } : Room) s m args below meth c H locs 0 0 (MQ below (va_Qi (xR r2) (xB dC dI cI u o g i2 a2 A) A) args s 0 0 A) (F0 m 49 ls [.int s0]) := by
  have htt : ∀ w ∈ tw_T, w.before _ s = true := fun w h => hts w (List.mem_cons_of_mem _ h)
  intro H locs ls hP hD hS hl
  rw [m_Heap_equal_b49] at hm
  refine lv_istore_n (lv' := [(3, .int s0), (0, .ref ((u 1)))]) hx hb d_Heap_equal_49 rfl hl (by decide) rfl (fun ls hl => ?_)
  refine lv_iconst (v := 0) hx hb d_Heap_equal_50 (by decide) ?_
  refine lv_istore (lv' := [(4, .int 0), (3, .int s0), (0, .ref ((u 1)))]) hx hb d_Heap_equal_51 hl (by decide) rfl (fun ls hl => ?_)
  exact lb_Heap_equal_53 l dC dI cI adK adV adA u o g n hx hb hml hown hts hK hE hA hr hlocks n _ _ _ _ hm _ _ _ hP hD hS (lv_sub hl [2, 1, 0] rfl)
def m_Heap_equal_b44 (n : Nat) (g : Nat → Nat) (i : Nat → Int32) (a : Nat → Nat → Int32)  : Option ((Nat → Int32) × (Nat → Nat → Int32) × Int32) := m_Heap_equal_b49 n g i a (0 : Int32)
set_option maxHeartbeats 4000000 in
set_option maxRecDepth 100000 in
theorem lb_Heap_equal_44 (l : Launch) (dC : Nat → ClassId) (dI : Nat → Nat → Nat) (cI : ClassId) (adK adV adA u o g : Nat → Nat) (n : Nat) {p : Program} {e : Env} {s : State} {m : MethodId} {args : Array Value} {below : List Frame} {meth : Method} {c : Code} {A : Nat → Prop} (hx : p.tables.exec = Jvm.exec) (hb : c.code = b_Heap_equal) (hml : c.maxLocals = 8) (hown : s.vm.findClass R_Heap = some m.cls) (hts : ∀ w ∈ w_Heap_equal, w.before args s = true) (hK : va_K (dC, dI) classes [(cI, .int)] s) (hE : tw_E adK adV adA A s s.heap) (hA : ∀ q : Nat, s.heap.size ≤ q → A q) (hr : meth.sig.returnType = (some .boolean)) (hlocks : meth.locks = false) {i2 : Nat → Int32} {a2 : Nat → Nat → Int32} {r2 : Int32} (i : Nat → Int32) (a : Nat → Nat → Int32)  (hm : m_Heap_equal_b44 n g i a = some (i2, a2, r2)) : ∀ (H : Heap) (locs : List Loc) (ls : Array Slot), va_P (dC, dI) classes (TW cI u o i a g) H → va_D A (TW cI u o i a g) → va_S A s.heap H locs → lv_has ls 8 [(0, .ref ((u 1)))] → W p l e ({ frames := 2, cells := 0, slots := 0, locals := 48 } : Room) s m args below meth c H locs 0 0 (MQ below (va_Qi (xR r2) (xB dC dI cI u o g i2 a2 A) A) args s 0 0 A) (F0 m 44 ls []) := by
  have htt : ∀ w ∈ tw_T, w.before _ s = true := fun w h => hts w (List.mem_cons_of_mem _ h)
  intro H locs ls hP hD hS hl
  rw [m_Heap_equal_b44] at hm
  refine lv_iconst (v := 0) hx hb d_Heap_equal_44 (by decide) ?_
  refine lv_goto (tgt := 49) hx hb d_Heap_equal_45 (by decide) ?_
  exact lb_Heap_equal_49 l dC dI cI adK adV adA u o g n hx hb hml hown hts hK hE hA hr hlocks _ _ _ hm _ _ _ hP hD hS (lv_sub hl [0] rfl)
def m_Heap_equal (n : Nat) (g : Nat → Nat) (i : Nat → Int32) (a : Nat → Nat → Int32) (v1 : Int32) (v2 : Int32) : Option ((Nat → Int32) × (Nat → Nat → Int32) × Int32) := ob0 (m_Heap_alike n g i a v1 v2) (fun r_2 => if r_2 = ((0 : Int32)) then some (i, a, 0) else ck ((0 : Int32)) 700 (ob1 (sv a 2 (0 : Int32).toNatClampNeg v1 : Nat → Nat → Int32) (fun a_5 => ck ((0 : Int32)) 700 (ob1 (sv a_5 3 (0 : Int32).toNatClampNeg v2 : Nat → Nat → Int32) (fun a_7 => ck ((0 : Int32)) 700 (ob1 (sv a_7 4 (0 : Int32).toNatClampNeg 0 : Nat → Nat → Int32) (fun a_9 => if v1 = v2 then m_Heap_equal_b44 n g i a_9 else ob0 (m_Heap_isList n v1) (fun r_12 => if r_12 = ((0 : Int32)) then m_Heap_equal_b44 n g i a_9 else m_Heap_equal_b49 n g i a_9 (1 : Int32)))))))))
set_option maxHeartbeats 4000000 in
set_option maxRecDepth 100000 in
theorem x_Heap_equal (l : Launch) (dC : Nat → ClassId) (dI : Nat → Nat → Nat) (cI : ClassId) (adK adV adA u o g : Nat → Nat) (sz : Nat) (n : Nat) {i : Nat → Int32} {a : Nat → Nat → Int32} {v1 : Int32} {v2 : Int32} {i2 : Nat → Int32} {a2 : Nat → Nat → Int32} {r2 : Int32} (hm : m_Heap_equal n g i a v1 v2 = some (i2, a2, r2)) : Met l y_Heap_equal w_Heap_equal ({ frames := 2, cells := 0, slots := 0, locals := 48 } : Room) (va_Pc [.ref ((u 1)), .int v1, .int v2] (xE dC dI cI adK adV adA u o g i a sz)) (va_Qi (xR r2) (xB dC dI cI u o g i2 a2 (va_A (TW cI u o i a g) sz)) (va_A (TW cI u o i a g) sz)) 0 0 ((va_A (TW cI u o i a g) sz)) := by
  refine Met.ofW (cc := b_Heap_equal) (maxL := 8) (ret := (some .boolean)) (by decide) rfl ?_
  intro p e s m args below meth c s₁ B hml hv
  obtain ⟨rfl, hsz, hP, hK, hE, hD0⟩ := hv
  have hx := B.exec
  have hb := B.bytes
  have hr := B.returns
  have hts := atoms_spec (ws := w_Heap_equal) B.pre
  have htt : ∀ w ∈ tw_T, w.before _ s = true := fun w h => hts w (List.mem_cons_of_mem _ h)
  have hown : s.vm.findClass R_Heap = some m.cls := findClass_of_methodNamed B.named
  have hlocks := B.notSynchronized
  subst hsz
  have hD := hD0.self (sz := s.heap.size)
  generalize hAe : (va_A (TW cI u o i a g) s.heap.size) = A at hD hE ⊢
  have hA : ∀ q : Nat, s.heap.size ≤ q → A q := fun q h => by rw [← hAe]; exact Or.inr h
  have hS : va_S A s.heap s.heap [] := va_S.rf
  have hl := lv_entry ([.ref ((u 1)), .int v1, .int v2]) (n := 8) (Nat.le_of_ble_eq_true rfl)
  rw [lg_entry_eq]
  generalize (lg_sl ([.ref ((u 1)), .int v1, .int v2]) ++ List.replicate (8 - (lg_sl ([.ref ((u 1)), .int v1, .int v2])).length) Slot.unset).toArray = ls at hl ⊢
  have hl : lv_has ls 8 [(0, .ref ((u 1))), (1, .int v1), (2, .int v2)] := hl
  rw [m_Heap_equal] at hm
  refine lv_aload_n hx hb d_Heap_equal_0 rfl (lv_at hl 0 rfl) ?_
  refine lv_iload_n hx hb d_Heap_equal_1 rfl (lv_at hl 1 rfl) ?_
  refine lv_iload_n hx hb d_Heap_equal_2 rfl (lv_at hl 2 rfl) ?_
  obtain ⟨r_2, h_1, hm⟩ := ob0_some hm
  have hFc := x_free0 hS hA
  refine va_calli (va_runV (As := [.int v1, .int v2]) (rest := []) ⟨hx, hb, hml, hown, hts⟩ (x_Heap_alike l dC dI cI adK adV adA u o g s.heap.size n h_1) (cwV 2 hts (tw_GV tw_cons cw_Heap_alike lk_Heap_146 in_Heap_alike sel_Heap_alike ini_Heap) rfl rfl rfl ⟨rfl, hd_Heap_alike⟩ ⟨Nat.le_of_ble_eq_true rfl, Nat.le_of_ble_eq_true rfl⟩) (xpVr hK hP hS hE hFc xo_1 rfl) rfl rfl hl.1 rfl (lv_room (Nat.le_of_ble_eq_true rfl)) d_Heap_equal_3 ⟨Nat.le_of_ble_eq_true rfl, Nat.le_of_ble_eq_true rfl⟩) hS (fun q _ h => hFc q h) hFc (fun r9 u9 t9 H locs ht hvm e9 hB hz1 hk1 hS => ?_)
  have e9 : r_2 = r9 := e9
  subst e9
  replace hP := x_keep hP hk1
  clear hFc hk1 hz1 hvm hB ht
  refine lv_if_ne (tgt := 11) hx hb d_Heap_equal_6 (by decide) (fun c_3 => ?_) (fun c_3 => ?_)
  · replace hm := if_f c_3 hm
    refine lv_aload_n hx hb d_Heap_equal_11 rfl (lv_at hl 0 rfl) ?_
    refine va_get (D := (dC, dI)) (ci := 1) (v := .ref ((u 12))) (C := R_Heap) (T := F_Heap) (N := 12) hx hb htt iw_Heap hown hK hP 1 xo_1 rfl 9 (Nat.le_of_ble_eq_true rfl) (htt _ lk_Heap_22) (fun _ h9 => h9) xg_1_9 d_Heap_equal_12 ?_
    refine lv_iconst (v := 0) hx hb d_Heap_equal_15 (by decide) ?_
    refine lv_iload_n hx hb d_Heap_equal_16 rfl (lv_at hl 1 rfl) ?_
    obtain ⟨h_4, hm⟩ := ck_some hm
    refine va_iast hx hb hK hP hD hS 14 0 twA_2 rfl h_4 d_Heap_equal_17 (fun H locs hP hD hS => ?_)
    obtain ⟨a_5, ea_5⟩ : ∃ y9 : Nat → Nat → Int32, y9 = sv a 2 (0 : Int32).toNatClampNeg v1 := ⟨_, rfl⟩
    replace hm := ob1_at ea_5 hm
    obtain ⟨hP, hD⟩ := xv_2 ea_5 hP hD
    refine lv_aload_n hx hb d_Heap_equal_18 rfl (lv_at hl 0 rfl) ?_
    refine va_get (D := (dC, dI)) (ci := 1) (v := .ref ((u 13))) (C := R_Heap) (T := F_Heap) (N := 12) hx hb htt iw_Heap hown hK hP 1 xo_1 rfl 10 (Nat.le_of_ble_eq_true rfl) (htt _ lk_Heap_25) (fun _ h9 => h9) xg_1_10 d_Heap_equal_19 ?_
    refine lv_iconst (v := 0) hx hb d_Heap_equal_22 (by decide) ?_
    refine lv_iload_n hx hb d_Heap_equal_23 rfl (lv_at hl 2 rfl) ?_
    obtain ⟨h_6, hm⟩ := ck_some hm
    refine va_iast hx hb hK hP hD hS 15 0 twA_3 rfl h_6 d_Heap_equal_24 (fun H locs hP hD hS => ?_)
    obtain ⟨a_7, ea_7⟩ : ∃ y9 : Nat → Nat → Int32, y9 = sv a_5 3 (0 : Int32).toNatClampNeg v2 := ⟨_, rfl⟩
    replace hm := ob1_at ea_7 hm
    obtain ⟨hP, hD⟩ := xv_3 ea_7 hP hD
    refine lv_aload_n hx hb d_Heap_equal_25 rfl (lv_at hl 0 rfl) ?_
    refine va_get (D := (dC, dI)) (ci := 1) (v := .ref ((u 14))) (C := R_Heap) (T := F_Heap) (N := 12) hx hb htt iw_Heap hown hK hP 1 xo_1 rfl 11 (Nat.le_of_ble_eq_true rfl) (htt _ lk_Heap_28) (fun _ h9 => h9) xg_1_11 d_Heap_equal_26 ?_
    refine lv_iconst (v := 0) hx hb d_Heap_equal_29 (by decide) ?_
    refine lv_iconst (v := 0) hx hb d_Heap_equal_30 (by decide) ?_
    obtain ⟨h_8, hm⟩ := ck_some hm
    refine va_iast hx hb hK hP hD hS 16 0 twA_4 rfl h_8 d_Heap_equal_31 (fun H locs hP hD hS => ?_)
    obtain ⟨a_9, ea_9⟩ : ∃ y9 : Nat → Nat → Int32, y9 = sv a_7 4 (0 : Int32).toNatClampNeg 0 := ⟨_, rfl⟩
    replace hm := ob1_at ea_9 hm
    obtain ⟨hP, hD⟩ := xv_4 ea_9 hP hD
    refine lv_iload_n hx hb d_Heap_equal_32 rfl (lv_at hl 1 rfl) ?_
    refine lv_iload_n hx hb d_Heap_equal_33 rfl (lv_at hl 2 rfl) ?_
    refine lv_icmp_eq (tgt := 44) hx hb d_Heap_equal_34 (by decide) (fun c_10 => ?_) (fun c_10 => ?_)
    · replace hm := if_t c_10 hm
      exact lb_Heap_equal_44 l dC dI cI adK adV adA u o g n hx hb hml hown hts hK hE hA hr hlocks _ _ hm _ _ _ hP hD hS (lv_sub hl [0] rfl)
    · replace hm := if_f c_10 hm
      refine lv_iload_n hx hb d_Heap_equal_37 rfl (lv_at hl 1 rfl) ?_
      obtain ⟨r_12, h_11, hm⟩ := ob0_some hm
      have hFc := x_free0 hS hA
      refine va_calli (va_runS (As := [.int v1]) (rest := []) ⟨hx, hb, hml, hown, hts⟩ (x_Heap_isList l H.size n h_11) (va_cwS 1 hts (tw_GS tw_cons cw_Heap_isList lk_Heap_143 st_Heap_isList ini_Heap) rfl rfl rfl hd_Heap_isList ⟨Nat.le_of_ble_eq_true rfl, Nat.le_of_ble_eq_true rfl⟩) xpS0 rfl rfl hl.1 rfl (lv_room (Nat.le_of_ble_eq_true rfl)) d_Heap_equal_38 ⟨Nat.le_of_ble_eq_true rfl, Nat.le_of_ble_eq_true rfl⟩) hS (fun q _ h => hFc q h) hFc (fun r9 u9 t9 H locs ht hvm e9 hB hz1 hk1 hS => ?_)
      have e9 : r_12 = r9 := e9
      subst e9
      replace hP := x_keep hP hk1
      clear hFc hk1 hz1 hvm hB ht
      refine lv_if_ne (tgt := 48) hx hb d_Heap_equal_41 (by decide) (fun c_13 => ?_) (fun c_13 => ?_)
      · replace hm := if_f c_13 hm
        refine lv_iconst (v := 1) hx hb d_Heap_equal_48 (by decide) ?_
        exact lb_Heap_equal_49 l dC dI cI adK adV adA u o g n hx hb hml hown hts hK hE hA hr hlocks _ _ _ hm _ _ _ hP hD hS (lv_sub hl [0] rfl)
      · replace hm := if_t c_13 hm
        exact lb_Heap_equal_44 l dC dI cI adK adV adA u o g n hx hb hml hown hts hK hE hA hr hlocks _ _ hm _ _ _ hP hD hS (lv_sub hl [0] rfl)
  · replace hm := if_t c_3 hm
    refine lv_iconst (v := 0) hx hb d_Heap_equal_9 (by decide) ?_
    obtain ⟨e1i, e1a, e3⟩ := re3 hm
    obtain ⟨hP, hD⟩ := x_eq e1i e1a hP hD
    exact W.zret hx hb hr (by decide) (fun t9 ht hW => ⟨⟨_, (), rfl, e3.symm, by rw [ht]; exact hP, hD⟩, hS.F ht⟩) hS.2.2 d_Heap_equal_10

def m_Deeds_item (n : Nat) (g : Nat → Nat) (i : Nat → Int32) (a : Nat → Nat → Int32) (v1 : Int32) (v2 : Int32) : Option (Int32) := if v1 < ((1 : Int32)) then some ((-2147483645)) else ob0 (m_Heap_count n g i a v2) (fun r_3 => if r_3 < v1 then some ((-2147483645)) else ob0 (m_Heap_member n g i a v2 (v1 - 1)) (fun r_6 => some r_6))
set_option maxHeartbeats 4000000 in
set_option maxRecDepth 100000 in
theorem x_Deeds_item (l : Launch) (dC : Nat → ClassId) (dI : Nat → Nat → Nat) (cI : ClassId) (adK adV adA u o g : Nat → Nat) (sz : Nat) (n : Nat) {i : Nat → Int32} {a : Nat → Nat → Int32} {v1 : Int32} {v2 : Int32} {r2 : Int32} (hm : m_Deeds_item n g i a v1 v2 = some r2) : Met l y_Deeds_item w_Deeds_item ({ frames := 2, cells := 0, slots := 0, locals := 45 } : Room) (va_Pc [.ref ((u 10)), .int v1, .int v2] (xEr dC dI cI adK adV adA u o g i a sz)) (va_Qi (xR r2) xT (xN sz)) 0 0 (xN sz) := by
  refine Met.ofW (cc := b_Deeds_item) (maxL := 3) (ret := (some .int)) (by decide) rfl ?_
  intro p e s m args below meth c s₁ B hml hv
  obtain ⟨rfl, hsz, hP, hK, hE⟩ := hv
  have hx := B.exec
  have hb := B.bytes
  have hr := B.returns
  have hts := atoms_spec (ws := w_Deeds_item) B.pre
  have htt : ∀ w ∈ tw_T, w.before _ s = true := fun w h => hts w (List.mem_cons_of_mem _ h)
  have hown : s.vm.findClass R_Deeds = some m.cls := findClass_of_methodNamed B.named
  have hlocks := B.notSynchronized
  subst hsz
  generalize hAe : xN s.heap.size = A at hE ⊢
  have hA : ∀ q : Nat, s.heap.size ≤ q → A q := fun q h => by rw [← hAe]; exact Or.inr h
  have hS : va_S A s.heap s.heap [] := va_S.rf
  have hl := lv_entry ([.ref ((u 10)), .int v1, .int v2]) (n := 3) (Nat.le_of_ble_eq_true rfl)
  rw [lg_entry_eq]
  generalize (lg_sl ([.ref ((u 10)), .int v1, .int v2]) ++ List.replicate (3 - (lg_sl ([.ref ((u 10)), .int v1, .int v2])).length) Slot.unset).toArray = ls at hl ⊢
  have hl : lv_has ls 3 [(0, .ref ((u 10))), (1, .int v1), (2, .int v2)] := hl
  rw [m_Deeds_item] at hm
  refine lv_iload_n hx hb d_Deeds_item_0 rfl (lv_at hl 1 rfl) ?_
  refine lv_iconst (v := 1) hx hb d_Deeds_item_1 (by decide) ?_
  refine lv_icmp_lt (tgt := 31) hx hb d_Deeds_item_2 (by decide) (fun c_1 => ?_) (fun c_1 => ?_)
  · replace hm := if_t c_1 hm
    refine lv_ldc (v := (-2147483645)) hx hb hown (htt _ lk_Deeds_146) d_Deeds_item_31 ?_
    have e3 := re1 hm
    exact W.iret hx hb hr (fun t9 ht hW => ⟨⟨_, (), rfl, e3.symm, trivial⟩, hS.F ht⟩) hS.2.2 d_Deeds_item_33
  · replace hm := if_f c_1 hm
    refine lv_iload_n hx hb d_Deeds_item_5 rfl (lv_at hl 1 rfl) ?_
    refine lv_aload_n hx hb d_Deeds_item_6 rfl (lv_at hl 0 rfl) ?_
    refine va_get (D := (dC, dI)) (ci := 10) (v := .ref ((u 1))) (C := R_Deeds) (T := F_Deeds) (N := 8) hx hb htt iw_Deeds hown hK hP 10 xo_10 rfl 0 (Nat.le_of_ble_eq_true rfl) (htt _ lk_Deeds_15) (fun _ h9 => h9) xg_10_0 d_Deeds_item_7 ?_
    refine lv_iload_n hx hb d_Deeds_item_10 rfl (lv_at hl 2 rfl) ?_
    obtain ⟨r_3, h_2, hm⟩ := ob0_some hm
    have hFc := x_free0 hS hA
    refine va_calli (va_runV (As := [.int v2]) (rest := [.int v1]) ⟨hx, hb, hml, hown, hts⟩ (x_Heap_count l dC dI cI adK adV adA u o g s.heap.size n h_2) (cwV 1 hts (tw_GV tw_cons cw_Heap_count lk_Deeds_173 in_Heap_count sel_Heap_count ini_Heap) rfl rfl rfl ⟨rfl, hd_Heap_count⟩ ⟨Nat.le_of_ble_eq_true rfl, Nat.le_of_ble_eq_true rfl⟩) (xpVr hK hP hS hE hFc xo_1 rfl) rfl rfl hl.1 rfl (lv_room (Nat.le_of_ble_eq_true rfl)) d_Deeds_item_11 ⟨Nat.le_of_ble_eq_true rfl, Nat.le_of_ble_eq_true rfl⟩) hS (fun q _ h => hFc q h) hFc (fun r9 u9 t9 H locs ht hvm e9 hB hz1 hk1 hS => ?_)
    have e9 : r_3 = r9 := e9
    subst e9
    replace hP := x_keep hP hk1
    clear hFc hk1 hz1 hvm hB ht
    refine lv_icmp_gt (tgt := 31) hx hb d_Deeds_item_14 (by decide) (fun c_4 => ?_) (fun c_4 => ?_)
    · replace hm := if_t c_4 hm
      refine lv_ldc (v := (-2147483645)) hx hb hown (htt _ lk_Deeds_146) d_Deeds_item_31 ?_
      have e3 := re1 hm
      exact W.iret hx hb hr (fun t9 ht hW => ⟨⟨_, (), rfl, e3.symm, trivial⟩, hS.F ht⟩) hS.2.2 d_Deeds_item_33
    · replace hm := if_f c_4 hm
      refine lv_aload_n hx hb d_Deeds_item_17 rfl (lv_at hl 0 rfl) ?_
      refine va_get (D := (dC, dI)) (ci := 10) (v := .ref ((u 1))) (C := R_Deeds) (T := F_Deeds) (N := 8) hx hb htt iw_Deeds hown hK hP 10 xo_10 rfl 0 (Nat.le_of_ble_eq_true rfl) (htt _ lk_Deeds_15) (fun _ h9 => h9) xg_10_0 d_Deeds_item_18 ?_
      refine lv_iload_n hx hb d_Deeds_item_21 rfl (lv_at hl 2 rfl) ?_
      refine lv_iload_n hx hb d_Deeds_item_22 rfl (lv_at hl 1 rfl) ?_
      refine lv_iconst (v := 1) hx hb d_Deeds_item_23 (by decide) ?_
      refine lv_isub hx hb d_Deeds_item_24 ?_
      obtain ⟨r_6, h_5, hm⟩ := ob0_some hm
      have hFc := x_free0 hS hA
      refine va_calli (va_runV (As := [.int v2, .int (v1 - 1)]) (rest := []) ⟨hx, hb, hml, hown, hts⟩ (x_Heap_member l dC dI cI adK adV adA u o g H.size n h_5) (cwV 2 hts (tw_GV tw_cons cw_Heap_member lk_Deeds_196 in_Heap_member sel_Heap_member ini_Heap) rfl rfl rfl ⟨rfl, hd_Heap_member⟩ ⟨Nat.le_of_ble_eq_true rfl, Nat.le_of_ble_eq_true rfl⟩) (xpVr hK hP hS hE hFc xo_1 rfl) rfl rfl hl.1 rfl (lv_room (Nat.le_of_ble_eq_true rfl)) d_Deeds_item_25 ⟨Nat.le_of_ble_eq_true rfl, Nat.le_of_ble_eq_true rfl⟩) hS (fun q _ h => hFc q h) hFc (fun r9 u9 t9 H locs ht hvm e9 hB hz1 hk1 hS => ?_)
      have e9 : r_6 = r9 := e9
      subst e9
      replace hP := x_keep hP hk1
      clear hFc hk1 hz1 hvm hB ht
      refine lv_goto (tgt := 33) hx hb d_Deeds_item_28 (by decide) ?_
      have e3 := re1 hm
      exact W.iret hx hb hr (fun t9 ht hW => ⟨⟨_, (), rfl, e3.symm, trivial⟩, hS.F ht⟩) hS.2.2 d_Deeds_item_33

def m_Deeds_madeList (n : Nat) (g : Nat → Nat) (i : Nat → Int32) (a : Nat → Nat → Int32) (v1 : Int32) (v2 : Int32) : Option ((Nat → Int32) × (Nat → Nat → Int32) × (Nat → Nat) × (Nat × Nat) × Int32) := if ((600 : Int32)) < v2 then some (i, a, g, (0, 0), (-2147483640)) else if ((((i 38) + v1) + 1)) ≤ ((30000 : Int32)) then obG (m_Heap_newList n g i a v1 v2) (fun i_4 a_5 g_6 r_8 => if r_8 = ((-2147483648 : Int32)) then some (i_4, a_5, g_6, (0, 0), (-2147483640)) else ob1 ((i_4 38) + (v1 + 1) : Int32) (fun x_14 => ob1 (upd i_4 38 x_14 : Nat → Int32) (fun i_15 => some (i_15, a_5, g_6, (0, 0), r_8)))) else some (i, a, g, (0, 0), (-2147483640))
set_option maxHeartbeats 4000000 in
set_option maxRecDepth 100000 in
theorem x_Deeds_madeList (l : Launch) (dC : Nat → ClassId) (dI : Nat → Nat → Nat) (cI : ClassId) (adK adV adA u o g : Nat → Nat) (sz : Nat) (n : Nat) {i : Nat → Int32} {a : Nat → Nat → Int32} {v1 : Int32} {v2 : Int32} {i2 : Nat → Int32} {a2 : Nat → Nat → Int32} {g2 : Nat → Nat} {k2 : Nat × Nat} {r2 : Int32} (hm : m_Deeds_madeList n g i a v1 v2 = some (i2, a2, g2, k2, r2)) : Met l y_Deeds_madeList w_Deeds_madeList ({ frames := 4, cells := k2.1, slots := k2.2, locals := 107 } : Room) (va_Pc [.ref ((u 10)), .int v1, .int v2] (xE dC dI cI adK adV adA u o g i a sz)) (va_Qi (xRg r2) (xBg dC dI cI u g2 i2 a2 (va_A (TW cI u o i a g) sz)) (va_A (TW cI u o i a g) sz)) k2.1 k2.2 ((va_A (TW cI u o i a g) sz)) := by
  refine Met.ofW (cc := b_Deeds_madeList) (maxL := 4) (ret := (some .int)) (by decide) rfl ?_
  intro p e s m args below meth c s₁ B hml hv
  obtain ⟨rfl, hsz, hP, hK, hE, hD0⟩ := hv
  have hx := B.exec
  have hb := B.bytes
  have hr := B.returns
  have hts := atoms_spec (ws := w_Deeds_madeList) B.pre
  have htt : ∀ w ∈ tw_T, w.before _ s = true := fun w h => hts w (List.mem_cons_of_mem _ h)
  have hown : s.vm.findClass R_Deeds = some m.cls := findClass_of_methodNamed B.named
  have hlocks := B.notSynchronized
  subst hsz
  have hD := hD0.self (sz := s.heap.size)
  generalize hAe : (va_A (TW cI u o i a g) s.heap.size) = A at hD hE ⊢
  have hA : ∀ q : Nat, s.heap.size ≤ q → A q := fun q h => by rw [← hAe]; exact Or.inr h
  have hS : va_S A s.heap s.heap [] := va_S.rf
  obtain ⟨mc, ms, emc, ems⟩ : ∃ mc ms : Nat, k2.1 = mc ∧ k2.2 = ms := ⟨_, _, rfl, rfl⟩
  have hkc : 0 + k2.1 = mc := by rw [Nat.zero_add]; exact emc
  have hks : 0 + k2.2 = ms := by rw [Nat.zero_add]; exact ems
  rw [emc, ems]
  clear emc ems
  have hl := lv_entry ([.ref ((u 10)), .int v1, .int v2]) (n := 4) (Nat.le_of_ble_eq_true rfl)
  rw [lg_entry_eq]
  generalize (lg_sl ([.ref ((u 10)), .int v1, .int v2]) ++ List.replicate (4 - (lg_sl ([.ref ((u 10)), .int v1, .int v2])).length) Slot.unset).toArray = ls at hl ⊢
  have hl : lv_has ls 4 [(0, .ref ((u 10))), (1, .int v1), (2, .int v2)] := hl
  rw [m_Deeds_madeList] at hm
  refine lv_iload_n hx hb d_Deeds_madeList_0 rfl (lv_at hl 2 rfl) ?_
  refine lv_sipush (v := 600) hx hb d_Deeds_madeList_1 (by decide) ?_
  refine lv_icmp_gt (tgt := 24) hx hb d_Deeds_madeList_4 (by decide) (fun c_1 => ?_) (fun c_1 => ?_)
  · replace hm := if_t c_1 hm
    refine lv_ldc (v := (-2147483640)) hx hb hown (htt _ lk_Deeds_202) d_Deeds_madeList_24 ?_
    obtain ⟨e1, e2, e4, e5, e6, e3⟩ := re5 hm
    obtain ⟨hP, hD⟩ := x_eqg e1 e2 e4 hP hD
    refine W.widen (k := mc) (n := ms) (show 0 ≤ mc by omega) (show 0 ≤ ms by omega) ?_
    exact W.iret hx hb hr (fun t9 ht hW => ⟨⟨_, o, rfl, e3.symm, by rw [ht]; exact hP, hD⟩, hS.F ht⟩) hS.2.2 d_Deeds_madeList_26
  · replace hm := if_f c_1 hm
    refine lv_aload_n hx hb d_Deeds_madeList_7 rfl (lv_at hl 0 rfl) ?_
    refine va_get (D := (dC, dI)) (ci := 10) (v := .ref ((u 8))) (C := R_Deeds) (T := F_Deeds) (N := 8) hx hb htt iw_Deeds hown hK hP 10 xo_10 rfl 1 (Nat.le_of_ble_eq_true rfl) (htt _ lk_Deeds_18) (fun _ h9 => h9) xg_10_1 d_Deeds_madeList_8 ?_
    refine va_get (D := (dC, dI)) (ci := 8) (v := .int (i 38)) (C := R_Line) (T := F_Line) (N := 18) hx hb htt iw_Line hown hK hP 8 xo_8 rfl 4 (Nat.le_of_ble_eq_true rfl) (htt _ lk_Deeds_199) (fun _ h9 => h9) xg_8_4 d_Deeds_madeList_11 ?_
    refine lv_iload_n hx hb d_Deeds_madeList_14 rfl (lv_at hl 1 rfl) ?_
    refine lv_iadd hx hb d_Deeds_madeList_15 ?_
    refine lv_iconst (v := 1) hx hb d_Deeds_madeList_16 (by decide) ?_
    refine lv_iadd hx hb d_Deeds_madeList_17 ?_
    refine lv_sipush (v := 30000) hx hb d_Deeds_madeList_18 (by decide) ?_
    refine lv_icmp_le (tgt := 27) hx hb d_Deeds_madeList_21 (by decide) (fun c_2 => ?_) (fun c_2 => ?_)
    · replace hm := if_t c_2 hm
      refine lv_aload_n hx hb d_Deeds_madeList_27 rfl (lv_at hl 0 rfl) ?_
      refine va_get (D := (dC, dI)) (ci := 10) (v := .ref ((u 1))) (C := R_Deeds) (T := F_Deeds) (N := 8) hx hb htt iw_Deeds hown hK hP 10 xo_10 rfl 0 (Nat.le_of_ble_eq_true rfl) (htt _ lk_Deeds_15) (fun _ h9 => h9) xg_10_0 d_Deeds_madeList_28 ?_
      refine lv_iload_n hx hb d_Deeds_madeList_31 rfl (lv_at hl 1 rfl) ?_
      refine lv_iload_n hx hb d_Deeds_madeList_32 rfl (lv_at hl 2 rfl) ?_
      obtain ⟨i_4, a_5, g_6, k_7, r_8, k_9, h_3, hm, e7, e8⟩ := obG_some hm
      have hFc := x_free hD hS hA
      refine xg_calli (va_runV (As := [.int v1, .int v2]) (rest := []) ⟨hx, hb, hml, hown, hts⟩ (x_Heap_newList l dC dI cI adK adV adA u o g s.heap.size n h_3) (cwV 2 hts (tw_GV tw_cons cw_Heap_newList lk_Deeds_203 in_Heap_newList sel_Heap_newList ini_Heap) rfl rfl rfl ⟨rfl, hd_Heap_newList⟩ ⟨Nat.le_of_ble_eq_true rfl, Nat.le_of_ble_eq_true rfl⟩) (xpV hK hP hD hS hE hFc xo_1 rfl) rfl rfl hl.1 rfl (lv_room (Nat.le_of_ble_eq_true rfl)) d_Deeds_madeList_33 ⟨show 0 + k_7.1 ≤ mc by omega, show 0 + k_7.2 ≤ ms by omega⟩) hS (fun q _ h => hFc q h) hFc (fun kc_11 ks_12 r9 o_10 t9 H locs ekc eks ht hvm e9 hB hz1 hk1 hS => ?_)
      replace hkc : kc_11 + k_9.1 = mc := by omega
      replace hks : ks_12 + k_9.2 = ms := by omega
      clear e7 e8
      clear ekc eks
      have e9 : r_8 = r9 := e9
      subst e9
      obtain ⟨hP, hD⟩ := x_aftg hB ht hFc
      clear hFc hk1 hz1 hvm hB ht
      refine lv_istore_n (lv' := [(3, .int r_8), (0, .ref ((u 10))), (1, .int v1), (2, .int v2)]) hx hb d_Deeds_madeList_36 rfl hl (by decide) rfl (fun ls hl => ?_)
      refine lv_iload_n hx hb d_Deeds_madeList_37 rfl (lv_at hl 0 rfl) ?_
      refine lv_ldc (v := (-2147483648)) hx hb hown (htt _ lk_Deeds_206) d_Deeds_madeList_38 ?_
      refine lv_icmp_ne (tgt := 46) hx hb d_Deeds_madeList_40 (by decide) (fun c_13 => ?_) (fun c_13 => ?_)
      · replace hm := if_f c_13 hm
        refine lv_aload_n hx hb d_Deeds_madeList_46 rfl (lv_at hl 1 rfl) ?_
        refine va_get (D := (dC, dI)) (ci := 10) (v := .ref ((u 8))) (C := R_Deeds) (T := F_Deeds) (N := 8) hx hb htt iw_Deeds hown hK hP 10 xo_10 rfl 1 (Nat.le_of_ble_eq_true rfl) (htt _ lk_Deeds_18) (fun _ h9 => h9) xg_10_1 d_Deeds_madeList_47 ?_
        refine lv_dup hx hb d_Deeds_madeList_50 rfl ?_
        refine va_get (D := (dC, dI)) (ci := 8) (v := .int (i_4 38)) (C := R_Line) (T := F_Line) (N := 18) hx hb htt iw_Line hown hK hP 8 xo_8 rfl 4 (Nat.le_of_ble_eq_true rfl) (htt _ lk_Deeds_199) (fun _ h9 => h9) xg_8_4 d_Deeds_madeList_51 ?_
        refine lv_iload_n hx hb d_Deeds_madeList_54 rfl (lv_at hl 2 rfl) ?_
        refine lv_iconst (v := 1) hx hb d_Deeds_madeList_55 (by decide) ?_
        refine lv_iadd hx hb d_Deeds_madeList_56 ?_
        refine lv_iadd hx hb d_Deeds_madeList_57 ?_
        refine lv_topi (fun x_14 ex_14 => ?_)
        replace hm := ob1_at ex_14 hm
        refine va_put (D := (dC, dI)) (ci := 8) (v := .int x_14) (ty := .int) (C := R_Line) (T := F_Line) (N := 18) hx hb htt iw_Line t_Line t_Line_ok n_Line hown hK hP hD hS 8 xo_8 rfl 4 (Nat.le_of_ble_eq_true rfl) (htt _ lk_Deeds_199) (fun _ h9 => h9) rfl (by decide +kernel) rfl rfl xl_8_4 d_Deeds_madeList_58 (fun H locs hP hD hS => ?_)
        obtain ⟨i_15, ei_15⟩ : ∃ y9 : Nat → Int32, y9 = upd i_4 38 x_14 := ⟨_, rfl⟩
        replace hm := ob1_at ei_15 hm
        obtain ⟨hP, hD⟩ := xw_38 ei_15 hP hD
        refine lv_iload_n hx hb d_Deeds_madeList_61 rfl (lv_at hl 0 rfl) ?_
        obtain ⟨e1, e2, e4, e5, e6, e3⟩ := re5 hm
        obtain ⟨hP, hD⟩ := x_eqg e1 e2 e4 hP hD
        refine W.widen (k := mc) (n := ms) (show kc_11 ≤ mc by omega) (show ks_12 ≤ ms by omega) ?_
        exact W.iret hx hb hr (fun t9 ht hW => ⟨⟨_, o_10, rfl, e3.symm, by rw [ht]; exact hP, hD⟩, hS.F ht⟩) hS.2.2 d_Deeds_madeList_62
      · replace hm := if_t c_13 hm
        refine lv_ldc (v := (-2147483640)) hx hb hown (htt _ lk_Deeds_202) d_Deeds_madeList_43 ?_
        obtain ⟨e1, e2, e4, e5, e6, e3⟩ := re5 hm
        obtain ⟨hP, hD⟩ := x_eqg e1 e2 e4 hP hD
        refine W.widen (k := mc) (n := ms) (show kc_11 ≤ mc by omega) (show ks_12 ≤ ms by omega) ?_
        exact W.iret hx hb hr (fun t9 ht hW => ⟨⟨_, o_10, rfl, e3.symm, by rw [ht]; exact hP, hD⟩, hS.F ht⟩) hS.2.2 d_Deeds_madeList_45
    · replace hm := if_f c_2 hm
      refine lv_ldc (v := (-2147483640)) hx hb hown (htt _ lk_Deeds_202) d_Deeds_madeList_24 ?_
      obtain ⟨e1, e2, e4, e5, e6, e3⟩ := re5 hm
      obtain ⟨hP, hD⟩ := x_eqg e1 e2 e4 hP hD
      refine W.widen (k := mc) (n := ms) (show 0 ≤ mc by omega) (show 0 ≤ ms by omega) ?_
      exact W.iret hx hb hr (fun t9 ht hW => ⟨⟨_, o, rfl, e3.symm, by rw [ht]; exact hP, hD⟩, hS.F ht⟩) hS.2.2 d_Deeds_madeList_26

def m_Output_addShown_b187 (n : Nat) (g : Nat → Nat) (rc_42 : (Nat → Int32) → (Nat → Nat → Int32) → Int32 → Int32 → Int32 → Option ((Nat → Int32) × (Nat → Nat → Int32) × Int32)) (i : Nat → Int32) (a : Nat → Nat → Int32) (v2 : Int32) (v3 : Int32) (v4 : Int32) : Option ((Nat → Int32) × (Nat → Nat → Int32) × Int32) := ob1 (v4 + 1 : Int32) (fun x_1 => rc_42 i a v2 v3 x_1)
set_option maxHeartbeats 4000000 in
set_option maxRecDepth 100000 in
theorem lb_Output_addShown_187 (l : Launch) (dC : Nat → ClassId) (dI : Nat → Nat → Nat) (cI : ClassId) (adK adV adA u o g : Nat → Nat) (n : Nat) {p : Program} {e : Env} {s : State} {m : MethodId} {args : Array Value} {below : List Frame} {meth : Method} {c : Code} {A : Nat → Prop} (hx : p.tables.exec = Jvm.exec) (hb : c.code = b_Output_addShown) (hml : c.maxLocals = 7) (hown : s.vm.findClass R_Output = some m.cls) (hts : ∀ w ∈ w_Output_addShown, w.before args s = true) (hK : va_K (dC, dI) classes [(cI, .int)] s) (hE : tw_E adK adV adA A s s.heap) (hA : ∀ q : Nat, s.heap.size ≤ q → A q) (hr : meth.sig.returnType = none) (hlocks : meth.locks = false) {i2 : Nat → Int32} {a2 : Nat → Nat → Int32} {r2 : Int32} (rc_42 : (Nat → Int32) → (Nat → Nat → Int32) → Int32 → Int32 → Int32 → Option ((Nat → Int32) × (Nat → Nat → Int32) × Int32)) (Hrc_42 : ∀ (i : Nat → Int32) (a : Nat → Nat → Int32) (v2 : Int32) (v3 : Int32) (v4 : Int32), rc_42 i a v2 v3 v4 = some (i2, a2, r2) → ∀ (H : Heap) (locs : List Loc) (ls : Array Slot), va_P (dC, dI) classes (TW cI u o i a g) H → va_D A (TW cI u o i a g) → va_S A s.heap H locs → lv_has ls 7 [(0, .ref ((u 6))), (2, .int v2), (3, .int v3), (4, .int v4)] → W p l e ({ frames := 2, cells := 0, slots := 0, locals := 50 } : Room) s m args below meth c H locs 0 0 (MQ below (va_Qv xV (xB dC dI cI u o g i2 a2 A) A) args s 0 0 A) (F0 m 42 ls [])) (i : Nat → Int32) (a : Nat → Nat → Int32) (v2 : Int32) (v3 : Int32) (v4 : Int32) (hm : m_Output_addShown_b187 n g rc_42 i a v2 v3 v4 = some (i2, a2, r2)) : ∀ (H : Heap) (locs : List Loc) (ls : Array Slot), va_P (dC, dI) classes (TW cI u o i a g) H → va_D A (TW cI u o i a g) → va_S A s.heap H locs → lv_has ls 7 [(0, .ref ((u 6))), (2, .int v2), (3, .int v3), (4, .int v4)] → W p l e ({ frames := 2, cells := 0, slots := 0, locals := 50 } : Room) s m args below meth c H locs 0 0 (MQ below (va_Qv xV (xB dC dI cI u o g i2 a2 A) A) args s 0 0 A) (F0 m 187 ls []) := by
  have htt : ∀ w ∈ tw_T, w.before _ s = true := fun w h => hts w (List.mem_cons_of_mem _ h)
  intro H locs ls hP hD hS hl
  rw [m_Output_addShown_b187] at hm
  obtain ⟨x_1, ex_1⟩ : ∃ y9 : Int32, y9 = v4 + 1 := ⟨_, rfl⟩
  replace hm := ob1_at ex_1 hm
  refine lv_iinc (v := x_1) (lv' := [(4, .int x_1), (0, .ref ((u 6))), (2, .int v2), (3, .int v3)]) hx hb d_Output_addShown_187 hl (k := 3) rfl (by rw [ex_1]; rfl) (by decide) rfl (fun ls hl => ?_)
  refine lv_goto (tgt := 42) hx hb d_Output_addShown_190 (by decide) ?_
  exact Hrc_42 _ _ _ _ _ hm _ _ _ hP hD hS (lv_sub hl [1, 2, 3, 0] rfl)
def m_Output_addShown_b130 (n : Nat) (g : Nat → Nat) (rc_42 : (Nat → Int32) → (Nat → Nat → Int32) → Int32 → Int32 → Int32 → Option ((Nat → Int32) × (Nat → Nat → Int32) × Int32)) (i : Nat → Int32) (a : Nat → Nat → Int32) (v2 : Int32) (v3 : Int32) (v4 : Int32) : Option ((Nat → Int32) × (Nat → Nat → Int32) × Int32) := ob (m_Output_add n g i a (93 : Int32)) (fun i_2 a_3 r_4 => m_Output_addShown_b187 n g rc_42 i_2 a_3 v2 v3 v4)
set_option maxHeartbeats 4000000 in
set_option maxRecDepth 100000 in
theorem lb_Output_addShown_130 (l : Launch) (dC : Nat → ClassId) (dI : Nat → Nat → Nat) (cI : ClassId) (adK adV adA u o g : Nat → Nat) (n : Nat) {p : Program} {e : Env} {s : State} {m : MethodId} {args : Array Value} {below : List Frame} {meth : Method} {c : Code} {A : Nat → Prop} (hx : p.tables.exec = Jvm.exec) (hb : c.code = b_Output_addShown) (hml : c.maxLocals = 7) (hown : s.vm.findClass R_Output = some m.cls) (hts : ∀ w ∈ w_Output_addShown, w.before args s = true) (hK : va_K (dC, dI) classes [(cI, .int)] s) (hE : tw_E adK adV adA A s s.heap) (hA : ∀ q : Nat, s.heap.size ≤ q → A q) (hr : meth.sig.returnType = none) (hlocks : meth.locks = false) {i2 : Nat → Int32} {a2 : Nat → Nat → Int32} {r2 : Int32} (rc_42 : (Nat → Int32) → (Nat → Nat → Int32) → Int32 → Int32 → Int32 → Option ((Nat → Int32) × (Nat → Nat → Int32) × Int32)) (Hrc_42 : ∀ (i : Nat → Int32) (a : Nat → Nat → Int32) (v2 : Int32) (v3 : Int32) (v4 : Int32), rc_42 i a v2 v3 v4 = some (i2, a2, r2) → ∀ (H : Heap) (locs : List Loc) (ls : Array Slot), va_P (dC, dI) classes (TW cI u o i a g) H → va_D A (TW cI u o i a g) → va_S A s.heap H locs → lv_has ls 7 [(0, .ref ((u 6))), (2, .int v2), (3, .int v3), (4, .int v4)] → W p l e ({ frames := 2, cells := 0, slots := 0, locals := 50 } : Room) s m args below meth c H locs 0 0 (MQ below (va_Qv xV (xB dC dI cI u o g i2 a2 A) A) args s 0 0 A) (F0 m 42 ls [])) (i : Nat → Int32) (a : Nat → Nat → Int32) (v2 : Int32) (v3 : Int32) (v4 : Int32) (hm : m_Output_addShown_b130 n g rc_42 i a v2 v3 v4 = some (i2, a2, r2)) : ∀ (H : Heap) (locs : List Loc) (ls : Array Slot), va_P (dC, dI) classes (TW cI u o i a g) H → va_D A (TW cI u o i a g) → va_S A s.heap H locs → lv_has ls 7 [(0, .ref ((u 6))), (2, .int v2), (3, .int v3), (4, .int v4)] → W p l e ({ frames := 2, cells := 0, slots := 0, locals := 50 } : Room) s m args below meth c H locs 0 0 (MQ below (va_Qv xV (xB dC dI cI u o g i2 a2 A) A) args s 0 0 A) (F0 m 130 ls []) := by
  have htt : ∀ w ∈ tw_T, w.before _ s = true := fun w h => hts w (List.mem_cons_of_mem _ h)
  intro H locs ls hP hD hS hl
  rw [m_Output_addShown_b130] at hm
  refine lv_aload_n hx hb d_Output_addShown_130 rfl (lv_at hl 0 rfl) ?_
  refine lv_bipush (v := 93) hx hb d_Output_addShown_131 (by decide) ?_
  obtain ⟨i_2, a_3, r_4, h_1, hm⟩ := ob_some hm
  have hFc := x_free hD hS hA
  refine va_callv (va_runV (As := [.int 93]) (rest := []) ⟨hx, hb, hml, hown, hts⟩ (x_Output_add l dC dI cI adK adV adA u o g H.size n h_1) (cwV 1 hts (tw_GV tw_cons cw_Output_add lk_Output_45 in_Output_add sel_Output_add ini_Output) rfl rfl rfl ⟨rfl, hd_Output_add⟩ ⟨Nat.le_of_ble_eq_true rfl, Nat.le_of_ble_eq_true rfl⟩) (xpV hK hP hD hS hE hFc xo_6 rfl) rfl rfl hl.1 rfl (lv_room (Nat.le_of_ble_eq_true rfl)) d_Output_addShown_133 ⟨Nat.le_of_ble_eq_true rfl, Nat.le_of_ble_eq_true rfl⟩) hS (fun q _ h => hFc q h) hFc (fun u9 t9 H locs ht hvm e9 hB hz1 hk1 hS => ?_)
  obtain ⟨hP, hD⟩ := x_aft hB ht hFc
  clear hFc hk1 hz1 hvm hB ht
  refine lv_goto (tgt := 187) hx hb d_Output_addShown_136 (by decide) ?_
  exact lb_Output_addShown_187 l dC dI cI adK adV adA u o g n hx hb hml hown hts hK hE hA hr hlocks rc_42 Hrc_42 _ _ _ _ _ hm _ _ _ hP hD hS (lv_sub hl [0, 1, 2, 3] rfl)
def m_Output_addShown_b112 (n : Nat) (g : Nat → Nat) (rc_42 : (Nat → Int32) → (Nat → Nat → Int32) → Int32 → Int32 → Int32 → Option ((Nat → Int32) × (Nat → Nat → Int32) × Int32)) (i : Nat → Int32) (a : Nat → Nat → Int32) (v2 : Int32) (v3 : Int32) (v4 : Int32) (v6 : Int32) : Option ((Nat → Int32) × (Nat → Nat → Int32) × Int32) := if v6 = ((-2147483648 : Int32)) then ob1 (v3 + (-1) : Int32) (fun x_19 => if ((0 : Int32)) < x_19 then m_Output_addShown_b130 n g rc_42 i a v2 x_19 v4 else if v2 = ((0 : Int32)) then m_Output_addShown_b130 n g rc_42 i a v2 x_19 v4 else m_Output_addShown_b187 n g rc_42 i a v2 x_19 v4) else ob0 (m_Heap_isList n v6) (fun r_3 => if r_3 = ((0 : Int32)) then ob (m_Output_addPlain n g i a v6) (fun i_16 a_17 r_18 => m_Output_addShown_b187 n g rc_42 i_16 a_17 v2 v3 v4) else if ((700 : Int32)) ≤ v3 then m_Output_addShown_b187 n g rc_42 i a v2 v3 v4 else ob (m_Output_add n g i a (91 : Int32)) (fun i_7 a_8 r_9 => ck v3 700 (ob1 (sv a_8 29 v3.toNatClampNeg v6 : Nat → Nat → Int32) (fun a_11 => ck v3 700 (ob1 (sv a_11 30 v3.toNatClampNeg 0 : Nat → Nat → Int32) (fun a_13 => ob1 (v3 + 1 : Int32) (fun x_14 => m_Output_addShown_b187 n g rc_42 i_7 a_13 v2 x_14 v4)))))))
set_option maxHeartbeats 4000000 in
set_option maxRecDepth 100000 in
theorem lb_Output_addShown_112 (l : Launch) (dC : Nat → ClassId) (dI : Nat → Nat → Nat) (cI : ClassId) (adK adV adA u o g : Nat → Nat) (n : Nat) {p : Program} {e : Env} {s : State} {m : MethodId} {args : Array Value} {below : List Frame} {meth : Method} {c : Code} {A : Nat → Prop} (hx : p.tables.exec = Jvm.exec) (hb : c.code = b_Output_addShown) (hml : c.maxLocals = 7) (hown : s.vm.findClass R_Output = some m.cls) (hts : ∀ w ∈ w_Output_addShown, w.before args s = true) (hK : va_K (dC, dI) classes [(cI, .int)] s) (hE : tw_E adK adV adA A s s.heap) (hA : ∀ q : Nat, s.heap.size ≤ q → A q) (hr : meth.sig.returnType = none) (hlocks : meth.locks = false) {i2 : Nat → Int32} {a2 : Nat → Nat → Int32} {r2 : Int32} (rc_42 : (Nat → Int32) → (Nat → Nat → Int32) → Int32 → Int32 → Int32 → Option ((Nat → Int32) × (Nat → Nat → Int32) × Int32)) (Hrc_42 : ∀ (i : Nat → Int32) (a : Nat → Nat → Int32) (v2 : Int32) (v3 : Int32) (v4 : Int32), rc_42 i a v2 v3 v4 = some (i2, a2, r2) → ∀ (H : Heap) (locs : List Loc) (ls : Array Slot), va_P (dC, dI) classes (TW cI u o i a g) H → va_D A (TW cI u o i a g) → va_S A s.heap H locs → lv_has ls 7 [(0, .ref ((u 6))), (2, .int v2), (3, .int v3), (4, .int v4)] → W p l e ({ frames := 2, cells := 0, slots := 0, locals := 50 } : Room) s m args below meth c H locs 0 0 (MQ below (va_Qv xV (xB dC dI cI u o g i2 a2 A) A) args s 0 0 A) (F0 m 42 ls [])) (i : Nat → Int32) (a : Nat → Nat → Int32) (v2 : Int32) (v3 : Int32) (v4 : Int32) (v6 : Int32) (hm : m_Output_addShown_b112 n g rc_42 i a v2 v3 v4 v6 = some (i2, a2, r2)) : ∀ (H : Heap) (locs : List Loc) (ls : Array Slot), va_P (dC, dI) classes (TW cI u o i a g) H → va_D A (TW cI u o i a g) → va_S A s.heap H locs → lv_has ls 7 [(0, .ref ((u 6))), (2, .int v2), (3, .int v3), (4, .int v4), (6, .int v6)] → W p l e ({ frames := 2, cells := 0, slots := 0, locals := 50 } : Room) s m args below meth c H locs 0 0 (MQ below (va_Qv xV (xB dC dI cI u o g i2 a2 A) A) args s 0 0 A) (F0 m 112 ls []) := by
  have htt : ∀ w ∈ tw_T, w.before _ s = true := fun w h => hts w (List.mem_cons_of_mem _ h)
  intro H locs ls hP hD hS hl
  rw [m_Output_addShown_b112] at hm
  refine lv_iload hx hb d_Output_addShown_112 (lv_at hl 4 rfl) ?_
  refine lv_ldc (v := (-2147483648)) hx hb hown (htt _ lk_Output_53) d_Output_addShown_114 ?_
  refine lv_icmp_ne (tgt := 139) hx hb d_Output_addShown_116 (by decide) (fun c_1 => ?_) (fun c_1 => ?_)
  · replace hm := if_f c_1 hm
    refine lv_iload hx hb d_Output_addShown_139 (lv_at hl 4 rfl) ?_
    obtain ⟨r_3, h_2, hm⟩ := ob0_some hm
    have hFc := x_free0 hS hA
    refine va_calli (va_runS (As := [.int v6]) (rest := []) ⟨hx, hb, hml, hown, hts⟩ (x_Heap_isList l H.size n h_2) (va_cwS 1 hts (tw_GS tw_cons cw_Heap_isList lk_Output_35 st_Heap_isList ini_Heap) rfl rfl rfl hd_Heap_isList ⟨Nat.le_of_ble_eq_true rfl, Nat.le_of_ble_eq_true rfl⟩) xpS0 rfl rfl hl.1 rfl (lv_room (Nat.le_of_ble_eq_true rfl)) d_Output_addShown_141 ⟨Nat.le_of_ble_eq_true rfl, Nat.le_of_ble_eq_true rfl⟩) hS (fun q _ h => hFc q h) hFc (fun r9 u9 t9 H locs ht hvm e9 hB hz1 hk1 hS => ?_)
    have e9 : r_3 = r9 := e9
    subst e9
    replace hP := x_keep hP hk1
    clear hFc hk1 hz1 hvm hB ht
    refine lv_if_ne (tgt := 156) hx hb d_Output_addShown_144 (by decide) (fun c_4 => ?_) (fun c_4 => ?_)
    · replace hm := if_f c_4 hm
      refine lv_iload_n hx hb d_Output_addShown_156 rfl (lv_at hl 2 rfl) ?_
      refine lv_sipush (v := 700) hx hb d_Output_addShown_157 (by decide) ?_
      refine lv_icmp_ge (tgt := 187) hx hb d_Output_addShown_160 (by decide) (fun c_5 => ?_) (fun c_5 => ?_)
      · replace hm := if_t c_5 hm
        exact lb_Output_addShown_187 l dC dI cI adK adV adA u o g n hx hb hml hown hts hK hE hA hr hlocks rc_42 Hrc_42 _ _ _ _ _ hm _ _ _ hP hD hS (lv_sub hl [0, 1, 2, 3] rfl)
      · replace hm := if_f c_5 hm
        refine lv_aload_n hx hb d_Output_addShown_163 rfl (lv_at hl 0 rfl) ?_
        refine lv_bipush (v := 91) hx hb d_Output_addShown_164 (by decide) ?_
        obtain ⟨i_7, a_8, r_9, h_6, hm⟩ := ob_some hm
        have hFc := x_free hD hS hA
        refine va_callv (va_runV (As := [.int 91]) (rest := []) ⟨hx, hb, hml, hown, hts⟩ (x_Output_add l dC dI cI adK adV adA u o g H.size n h_6) (cwV 1 hts (tw_GV tw_cons cw_Output_add lk_Output_45 in_Output_add sel_Output_add ini_Output) rfl rfl rfl ⟨rfl, hd_Output_add⟩ ⟨Nat.le_of_ble_eq_true rfl, Nat.le_of_ble_eq_true rfl⟩) (xpV hK hP hD hS hE hFc xo_6 rfl) rfl rfl hl.1 rfl (lv_room (Nat.le_of_ble_eq_true rfl)) d_Output_addShown_166 ⟨Nat.le_of_ble_eq_true rfl, Nat.le_of_ble_eq_true rfl⟩) hS (fun q _ h => hFc q h) hFc (fun u9 t9 H locs ht hvm e9 hB hz1 hk1 hS => ?_)
        obtain ⟨hP, hD⟩ := x_aft hB ht hFc
        clear hFc hk1 hz1 hvm hB ht
        refine lv_aload_n hx hb d_Output_addShown_169 rfl (lv_at hl 0 rfl) ?_
        refine va_get (D := (dC, dI)) (ci := 6) (v := .ref ((u 39))) (C := R_Output) (T := F_Output) (N := 11) hx hb htt iw_Output hown hK hP 6 xo_6 rfl 9 (Nat.le_of_ble_eq_true rfl) (htt _ lk_Output_21) (fun _ h9 => h9) xg_6_9 d_Output_addShown_170 ?_
        refine lv_iload_n hx hb d_Output_addShown_173 rfl (lv_at hl 2 rfl) ?_
        refine lv_iload hx hb d_Output_addShown_174 (lv_at hl 4 rfl) ?_
        obtain ⟨h_10, hm⟩ := ck_some hm
        refine va_iast hx hb hK hP hD hS 41 0 twA_29 rfl h_10 d_Output_addShown_176 (fun H locs hP hD hS => ?_)
        obtain ⟨a_11, ea_11⟩ : ∃ y9 : Nat → Nat → Int32, y9 = sv a_8 29 v3.toNatClampNeg v6 := ⟨_, rfl⟩
        replace hm := ob1_at ea_11 hm
        obtain ⟨hP, hD⟩ := xv_29 ea_11 hP hD
        refine lv_aload_n hx hb d_Output_addShown_177 rfl (lv_at hl 0 rfl) ?_
        refine va_get (D := (dC, dI)) (ci := 6) (v := .ref ((u 40))) (C := R_Output) (T := F_Output) (N := 11) hx hb htt iw_Output hown hK hP 6 xo_6 rfl 10 (Nat.le_of_ble_eq_true rfl) (htt _ lk_Output_24) (fun _ h9 => h9) xg_6_10 d_Output_addShown_178 ?_
        refine lv_iload_n hx hb d_Output_addShown_181 rfl (lv_at hl 2 rfl) ?_
        refine lv_iconst (v := 0) hx hb d_Output_addShown_182 (by decide) ?_
        obtain ⟨h_12, hm⟩ := ck_some hm
        refine va_iast hx hb hK hP hD hS 42 0 twA_30 rfl h_12 d_Output_addShown_183 (fun H locs hP hD hS => ?_)
        obtain ⟨a_13, ea_13⟩ : ∃ y9 : Nat → Nat → Int32, y9 = sv a_11 30 v3.toNatClampNeg 0 := ⟨_, rfl⟩
        replace hm := ob1_at ea_13 hm
        obtain ⟨hP, hD⟩ := xv_30 ea_13 hP hD
        obtain ⟨x_14, ex_14⟩ : ∃ y9 : Int32, y9 = v3 + 1 := ⟨_, rfl⟩
        replace hm := ob1_at ex_14 hm
        refine lv_iinc (v := x_14) (lv' := [(3, .int x_14), (0, .ref ((u 6))), (2, .int v2), (4, .int v4), (6, .int v6)]) hx hb d_Output_addShown_184 hl (k := 2) rfl (by rw [ex_14]; rfl) (by decide) rfl (fun ls hl => ?_)
        exact lb_Output_addShown_187 l dC dI cI adK adV adA u o g n hx hb hml hown hts hK hE hA hr hlocks rc_42 Hrc_42 _ _ _ _ _ hm _ _ _ hP hD hS (lv_sub hl [1, 2, 0, 3] rfl)
    · replace hm := if_t c_4 hm
      refine lv_aload_n hx hb d_Output_addShown_147 rfl (lv_at hl 0 rfl) ?_
      refine lv_iload hx hb d_Output_addShown_148 (lv_at hl 4 rfl) ?_
      obtain ⟨i_16, a_17, r_18, h_15, hm⟩ := ob_some hm
      have hFc := x_free hD hS hA
      refine va_callv (va_runV (As := [.int v6]) (rest := []) ⟨hx, hb, hml, hown, hts⟩ (x_Output_addPlain l dC dI cI adK adV adA u o g H.size n h_15) (cwV 1 hts (tw_GV tw_cons cw_Output_addPlain lk_Output_41 in_Output_addPlain sel_Output_addPlain ini_Output) rfl rfl rfl ⟨rfl, hd_Output_addPlain⟩ ⟨Nat.le_of_ble_eq_true rfl, Nat.le_of_ble_eq_true rfl⟩) (xpV hK hP hD hS hE hFc xo_6 rfl) rfl rfl hl.1 rfl (lv_room (Nat.le_of_ble_eq_true rfl)) d_Output_addShown_150 ⟨Nat.le_of_ble_eq_true rfl, Nat.le_of_ble_eq_true rfl⟩) hS (fun q _ h => hFc q h) hFc (fun u9 t9 H locs ht hvm e9 hB hz1 hk1 hS => ?_)
      obtain ⟨hP, hD⟩ := x_aft hB ht hFc
      clear hFc hk1 hz1 hvm hB ht
      refine lv_goto (tgt := 187) hx hb d_Output_addShown_153 (by decide) ?_
      exact lb_Output_addShown_187 l dC dI cI adK adV adA u o g n hx hb hml hown hts hK hE hA hr hlocks rc_42 Hrc_42 _ _ _ _ _ hm _ _ _ hP hD hS (lv_sub hl [0, 1, 2, 3] rfl)
  · replace hm := if_t c_1 hm
    obtain ⟨x_19, ex_19⟩ : ∃ y9 : Int32, y9 = v3 + (-1) := ⟨_, rfl⟩
    replace hm := ob1_at ex_19 hm
    refine lv_iinc (v := x_19) (lv' := [(3, .int x_19), (0, .ref ((u 6))), (2, .int v2), (4, .int v4), (6, .int v6)]) hx hb d_Output_addShown_119 hl (k := 2) rfl (by rw [ex_19]; rfl) (by decide) rfl (fun ls hl => ?_)
    refine lv_iload_n hx hb d_Output_addShown_122 rfl (lv_at hl 0 rfl) ?_
    refine lv_if_gt (tgt := 130) hx hb d_Output_addShown_123 (by decide) (fun c_20 => ?_) (fun c_20 => ?_)
    · replace hm := if_t c_20 hm
      exact lb_Output_addShown_130 l dC dI cI adK adV adA u o g n hx hb hml hown hts hK hE hA hr hlocks rc_42 Hrc_42 _ _ _ _ _ hm _ _ _ hP hD hS (lv_sub hl [1, 2, 0, 3] rfl)
    · replace hm := if_f c_20 hm
      refine lv_iload_n hx hb d_Output_addShown_126 rfl (lv_at hl 2 rfl) ?_
      refine lv_if_ne (tgt := 187) hx hb d_Output_addShown_127 (by decide) (fun c_21 => ?_) (fun c_21 => ?_)
      · replace hm := if_f c_21 hm
        exact lb_Output_addShown_187 l dC dI cI adK adV adA u o g n hx hb hml hown hts hK hE hA hr hlocks rc_42 Hrc_42 _ _ _ _ _ hm _ _ _ hP hD hS (lv_sub hl [1, 2, 0, 3] rfl)
      · replace hm := if_t c_21 hm
        exact lb_Output_addShown_130 l dC dI cI adK adV adA u o g n hx hb hml hown hts hK hE hA hr hlocks rc_42 Hrc_42 _ _ _ _ _ hm _ _ _ hP hD hS (lv_sub hl [1, 2, 0, 3] rfl)
def m_Output_addShown_b42 (n : Nat) (g : Nat → Nat) : Nat → (Nat → Int32) → (Nat → Nat → Int32) → Int32 → Int32 → Int32 → Option ((Nat → Int32) × (Nat → Nat → Int32) × Int32)
  | 0, _, _, _, _, _ => none
  | f + 1, i, a, v2, v3, v4 => if ((1000000 : Int32)) ≤ v4 then some (i, a, (0 : Int32)) else if v3 ≤ ((0 : Int32)) then some (i, a, (0 : Int32)) else ck ((v3 - 1)) 700 (ob1 (a 30 (v3 - 1).toNatClampNeg : Int32) (fun x_4 => ck ((v3 - 1)) 700 (ob1 (sv a 30 (v3 - 1).toNatClampNeg (x_4 + 1) : Nat → Nat → Int32) (fun a_6 => ck ((v3 - 1)) 700 (ob0 (m_Heap_member n g i a_6 (a_6 29 (v3 - 1).toNatClampNeg) x_4) (fun r_9 => if r_9 = ((-2147483648 : Int32)) then m_Output_addShown_b112 n g (m_Output_addShown_b42 n g f) i a_6 v2 v3 v4 r_9 else if x_4 ≤ ((0 : Int32)) then m_Output_addShown_b112 n g (m_Output_addShown_b42 n g f) i a_6 v2 v3 v4 r_9 else ob (m_Output_add n g i a_6 (32 : Int32)) (fun i_13 a_14 r_15 => m_Output_addShown_b112 n g (m_Output_addShown_b42 n g f) i_13 a_14 v2 v3 v4 r_9)))))))
set_option maxHeartbeats 4000000 in
set_option maxRecDepth 100000 in
theorem lb_Output_addShown_42 (l : Launch) (dC : Nat → ClassId) (dI : Nat → Nat → Nat) (cI : ClassId) (adK adV adA u o g : Nat → Nat) (n : Nat) {p : Program} {e : Env} {s : State} {m : MethodId} {args : Array Value} {below : List Frame} {meth : Method} {c : Code} {A : Nat → Prop} (hx : p.tables.exec = Jvm.exec) (hb : c.code = b_Output_addShown) (hml : c.maxLocals = 7) (hown : s.vm.findClass R_Output = some m.cls) (hts : ∀ w ∈ w_Output_addShown, w.before args s = true) (hK : va_K (dC, dI) classes [(cI, .int)] s) (hE : tw_E adK adV adA A s s.heap) (hA : ∀ q : Nat, s.heap.size ≤ q → A q) (hr : meth.sig.returnType = none) (hlocks : meth.locks = false) {i2 : Nat → Int32} {a2 : Nat → Nat → Int32} {r2 : Int32} : ∀ (f : Nat) (i : Nat → Int32) (a : Nat → Nat → Int32) (v2 : Int32) (v3 : Int32) (v4 : Int32), m_Output_addShown_b42 n g f i a v2 v3 v4 = some (i2, a2, r2) → ∀ (H : Heap) (locs : List Loc) (ls : Array Slot), va_P (dC, dI) classes (TW cI u o i a g) H → va_D A (TW cI u o i a g) → va_S A s.heap H locs → lv_has ls 7 [(0, .ref ((u 6))), (2, .int v2), (3, .int v3), (4, .int v4)] → W p l e ({ frames := 2, cells := 0, slots := 0, locals := 50 } : Room) s m args below meth c H locs 0 0 (MQ below (va_Qv xV (xB dC dI cI u o g i2 a2 A) A) args s 0 0 A) (F0 m 42 ls []) := by
  have htt : ∀ w ∈ tw_T, w.before _ s = true := fun w h => hts w (List.mem_cons_of_mem _ h)
  intro f
  induction f with
  | zero =>
    intro i a v2 v3 v4 hm
    rw [m_Output_addShown_b42] at hm
    cases hm
  | succ f ih =>
    intro i a v2 v3 v4 hm H locs ls hP hD hS hl
    rw [m_Output_addShown_b42] at hm
    refine lv_iload hx hb d_Output_addShown_42 (lv_at hl 3 rfl) ?_
    refine lv_ldc (v := 1000000) hx hb hown (htt _ lk_Output_48) d_Output_addShown_44 ?_
    refine lv_icmp_ge (tgt := 193) hx hb d_Output_addShown_46 (by decide) (fun c_1 => ?_) (fun c_1 => ?_)
    · replace hm := if_t c_1 hm
      obtain ⟨e1i, e1a, e3⟩ := re3 hm
      obtain ⟨hP, hD⟩ := x_eq e1i e1a hP hD
      exact W.vret hx hb hr (fun t9 ht hW => ⟨⟨(), rfl, trivial, by rw [ht]; exact hP, hD⟩, hS.F ht⟩) hS.2.2 d_Output_addShown_193
    · replace hm := if_f c_1 hm
      refine lv_iload_n hx hb d_Output_addShown_49 rfl (lv_at hl 2 rfl) ?_
      refine lv_if_le (tgt := 193) hx hb d_Output_addShown_50 (by decide) (fun c_2 => ?_) (fun c_2 => ?_)
      · replace hm := if_t c_2 hm
        obtain ⟨e1i, e1a, e3⟩ := re3 hm
        obtain ⟨hP, hD⟩ := x_eq e1i e1a hP hD
        exact W.vret hx hb hr (fun t9 ht hW => ⟨⟨(), rfl, trivial, by rw [ht]; exact hP, hD⟩, hS.F ht⟩) hS.2.2 d_Output_addShown_193
      · replace hm := if_f c_2 hm
        refine lv_aload_n hx hb d_Output_addShown_53 rfl (lv_at hl 0 rfl) ?_
        refine va_get (D := (dC, dI)) (ci := 6) (v := .ref ((u 40))) (C := R_Output) (T := F_Output) (N := 11) hx hb htt iw_Output hown hK hP 6 xo_6 rfl 10 (Nat.le_of_ble_eq_true rfl) (htt _ lk_Output_24) (fun _ h9 => h9) xg_6_10 d_Output_addShown_54 ?_
        refine lv_iload_n hx hb d_Output_addShown_57 rfl (lv_at hl 2 rfl) ?_
        refine lv_iconst (v := 1) hx hb d_Output_addShown_58 (by decide) ?_
        refine lv_isub hx hb d_Output_addShown_59 ?_
        obtain ⟨h_3, hm⟩ := ck_some hm
        refine va_iald hx hb hK hP 42 0 twA_30 rfl h_3 d_Output_addShown_60 ?_
        refine lv_topi (fun x_4 ex_4 => ?_)
        replace hm := ob1_at ex_4 hm
        refine lv_istore (lv' := [(5, .int x_4), (0, .ref ((u 6))), (2, .int v2), (3, .int v3), (4, .int v4)]) hx hb d_Output_addShown_61 hl (by decide) rfl (fun ls hl => ?_)
        refine lv_aload_n hx hb d_Output_addShown_63 rfl (lv_at hl 1 rfl) ?_
        refine va_get (D := (dC, dI)) (ci := 6) (v := .ref ((u 40))) (C := R_Output) (T := F_Output) (N := 11) hx hb htt iw_Output hown hK hP 6 xo_6 rfl 10 (Nat.le_of_ble_eq_true rfl) (htt _ lk_Output_24) (fun _ h9 => h9) xg_6_10 d_Output_addShown_64 ?_
        refine lv_iload_n hx hb d_Output_addShown_67 rfl (lv_at hl 3 rfl) ?_
        refine lv_iconst (v := 1) hx hb d_Output_addShown_68 (by decide) ?_
        refine lv_isub hx hb d_Output_addShown_69 ?_
        refine lv_iload hx hb d_Output_addShown_70 (lv_at hl 0 rfl) ?_
        refine lv_iconst (v := 1) hx hb d_Output_addShown_72 (by decide) ?_
        refine lv_iadd hx hb d_Output_addShown_73 ?_
        obtain ⟨h_5, hm⟩ := ck_some hm
        refine va_iast hx hb hK hP hD hS 42 0 twA_30 rfl h_5 d_Output_addShown_74 (fun H locs hP hD hS => ?_)
        obtain ⟨a_6, ea_6⟩ : ∃ y9 : Nat → Nat → Int32, y9 = sv a 30 (v3 - 1).toNatClampNeg (x_4 + 1) := ⟨_, rfl⟩
        replace hm := ob1_at ea_6 hm
        obtain ⟨hP, hD⟩ := xv_30 ea_6 hP hD
        refine lv_aload_n hx hb d_Output_addShown_75 rfl (lv_at hl 1 rfl) ?_
        refine va_get (D := (dC, dI)) (ci := 6) (v := .ref ((u 1))) (C := R_Output) (T := F_Output) (N := 11) hx hb htt iw_Output hown hK hP 6 xo_6 rfl 0 (Nat.le_of_ble_eq_true rfl) (htt _ lk_Output_27) (fun _ h9 => h9) xg_6_0 d_Output_addShown_76 ?_
        refine lv_aload_n hx hb d_Output_addShown_79 rfl (lv_at hl 1 rfl) ?_
        refine va_get (D := (dC, dI)) (ci := 6) (v := .ref ((u 39))) (C := R_Output) (T := F_Output) (N := 11) hx hb htt iw_Output hown hK hP 6 xo_6 rfl 9 (Nat.le_of_ble_eq_true rfl) (htt _ lk_Output_21) (fun _ h9 => h9) xg_6_9 d_Output_addShown_80 ?_
        refine lv_iload_n hx hb d_Output_addShown_83 rfl (lv_at hl 3 rfl) ?_
        refine lv_iconst (v := 1) hx hb d_Output_addShown_84 (by decide) ?_
        refine lv_isub hx hb d_Output_addShown_85 ?_
        obtain ⟨h_7, hm⟩ := ck_some hm
        refine va_iald hx hb hK hP 41 0 twA_29 rfl h_7 d_Output_addShown_86 ?_
        refine lv_iload hx hb d_Output_addShown_87 (lv_at hl 0 rfl) ?_
        obtain ⟨r_9, h_8, hm⟩ := ob0_some hm
        have hFc := x_free0 hS hA
        refine va_calli (va_runV (As := [.int (a_6 29 (v3 - 1).toNatClampNeg), .int x_4]) (rest := []) ⟨hx, hb, hml, hown, hts⟩ (x_Heap_member l dC dI cI adK adV adA u o g H.size n h_8) (cwV 2 hts (tw_GV tw_cons cw_Heap_member lk_Output_49 in_Heap_member sel_Heap_member ini_Heap) rfl rfl rfl ⟨rfl, hd_Heap_member⟩ ⟨Nat.le_of_ble_eq_true rfl, Nat.le_of_ble_eq_true rfl⟩) (xpVr hK hP hS hE hFc xo_1 rfl) rfl rfl hl.1 rfl (lv_room (Nat.le_of_ble_eq_true rfl)) d_Output_addShown_89 ⟨Nat.le_of_ble_eq_true rfl, Nat.le_of_ble_eq_true rfl⟩) hS (fun q _ h => hFc q h) hFc (fun r9 u9 t9 H locs ht hvm e9 hB hz1 hk1 hS => ?_)
        have e9 : r_9 = r9 := e9
        subst e9
        replace hP := x_keep hP hk1
        clear hFc hk1 hz1 hvm hB ht
        refine lv_istore (lv' := [(6, .int r_9), (5, .int x_4), (0, .ref ((u 6))), (2, .int v2), (3, .int v3), (4, .int v4)]) hx hb d_Output_addShown_92 hl (by decide) rfl (fun ls hl => ?_)
        refine lv_iload hx hb d_Output_addShown_94 (lv_at hl 0 rfl) ?_
        refine lv_ldc (v := (-2147483648)) hx hb hown (htt _ lk_Output_53) d_Output_addShown_96 ?_
        refine lv_icmp_eq (tgt := 112) hx hb d_Output_addShown_98 (by decide) (fun c_10 => ?_) (fun c_10 => ?_)
        · replace hm := if_t c_10 hm
          exact lb_Output_addShown_112 l dC dI cI adK adV adA u o g n hx hb hml hown hts hK hE hA hr hlocks (m_Output_addShown_b42 n g f) ih _ _ _ _ _ _ hm _ _ _ hP hD hS (lv_sub hl [2, 3, 4, 5, 0] rfl)
        · replace hm := if_f c_10 hm
          refine lv_iload hx hb d_Output_addShown_101 (lv_at hl 1 rfl) ?_
          refine lv_if_le (tgt := 112) hx hb d_Output_addShown_103 (by decide) (fun c_11 => ?_) (fun c_11 => ?_)
          · replace hm := if_t c_11 hm
            exact lb_Output_addShown_112 l dC dI cI adK adV adA u o g n hx hb hml hown hts hK hE hA hr hlocks (m_Output_addShown_b42 n g f) ih _ _ _ _ _ _ hm _ _ _ hP hD hS (lv_sub hl [2, 3, 4, 5, 0] rfl)
          · replace hm := if_f c_11 hm
            refine lv_aload_n hx hb d_Output_addShown_106 rfl (lv_at hl 2 rfl) ?_
            refine lv_bipush (v := 32) hx hb d_Output_addShown_107 (by decide) ?_
            obtain ⟨i_13, a_14, r_15, h_12, hm⟩ := ob_some hm
            have hFc := x_free hD hS hA
            refine va_callv (va_runV (As := [.int 32]) (rest := []) ⟨hx, hb, hml, hown, hts⟩ (x_Output_add l dC dI cI adK adV adA u o g H.size n h_12) (cwV 1 hts (tw_GV tw_cons cw_Output_add lk_Output_45 in_Output_add sel_Output_add ini_Output) rfl rfl rfl ⟨rfl, hd_Output_add⟩ ⟨Nat.le_of_ble_eq_true rfl, Nat.le_of_ble_eq_true rfl⟩) (xpV hK hP hD hS hE hFc xo_6 rfl) rfl rfl hl.1 rfl (lv_room (Nat.le_of_ble_eq_true rfl)) d_Output_addShown_109 ⟨Nat.le_of_ble_eq_true rfl, Nat.le_of_ble_eq_true rfl⟩) hS (fun q _ h => hFc q h) hFc (fun u9 t9 H locs ht hvm e9 hB hz1 hk1 hS => ?_)
            obtain ⟨hP, hD⟩ := x_aft hB ht hFc
            clear hFc hk1 hz1 hvm hB ht
            exact lb_Output_addShown_112 l dC dI cI adK adV adA u o g n hx hb hml hown hts hK hE hA hr hlocks (m_Output_addShown_b42 n g f) ih _ _ _ _ _ _ hm _ _ _ hP hD hS (lv_sub hl [2, 3, 4, 5, 0] rfl)
def m_Output_addShown_b23 (n : Nat) (g : Nat → Nat) (i : Nat → Int32) (a : Nat → Nat → Int32) (v1 : Int32) (v2 : Int32) : Option ((Nat → Int32) × (Nat → Nat → Int32) × Int32) := ck ((0 : Int32)) 700 (ob1 (sv a 29 (0 : Int32).toNatClampNeg v1 : Nat → Nat → Int32) (fun a_2 => ck ((0 : Int32)) 700 (ob1 (sv a_2 30 (0 : Int32).toNatClampNeg 0 : Nat → Nat → Int32) (fun a_4 => m_Output_addShown_b42 n g n i a_4 v2 (1 : Int32) (0 : Int32)))))
set_option maxHeartbeats 4000000 in
set_option maxRecDepth 100000 in
theorem lb_Output_addShown_23 (l : Launch) (dC : Nat → ClassId) (dI : Nat → Nat → Nat) (cI : ClassId) (adK adV adA u o g : Nat → Nat) (n : Nat) {p : Program} {e : Env} {s : State} {m : MethodId} {args : Array Value} {below : List Frame} {meth : Method} {c : Code} {A : Nat → Prop} (hx : p.tables.exec = Jvm.exec) (hb : c.code = b_Output_addShown) (hml : c.maxLocals = 7) (hown : s.vm.findClass R_Output = some m.cls) (hts : ∀ w ∈ w_Output_addShown, w.before args s = true) (hK : va_K (dC, dI) classes [(cI, .int)] s) (hE : tw_E adK adV adA A s s.heap) (hA : ∀ q : Nat, s.heap.size ≤ q → A q) (hr : meth.sig.returnType = none) (hlocks : meth.locks = false) {i2 : Nat → Int32} {a2 : Nat → Nat → Int32} {r2 : Int32} (i : Nat → Int32) (a : Nat → Nat → Int32) (v1 : Int32) (v2 : Int32) (hm : m_Output_addShown_b23 n g i a v1 v2 = some (i2, a2, r2)) : ∀ (H : Heap) (locs : List Loc) (ls : Array Slot), va_P (dC, dI) classes (TW cI u o i a g) H → va_D A (TW cI u o i a g) → va_S A s.heap H locs → lv_has ls 7 [(0, .ref ((u 6))), (1, .int v1), (2, .int v2)] → W p l e ({ frames := 2, cells := 0, slots := 0, locals := 50 } : Room) s m args below meth c H locs 0 0 (MQ below (va_Qv xV (xB dC dI cI u o g i2 a2 A) A) args s 0 0 A) (F0 m 23 ls []) := by
  have htt : ∀ w ∈ tw_T, w.before _ s = true := fun w h => hts w (List.mem_cons_of_mem _ h)
  intro H locs ls hP hD hS hl
  rw [m_Output_addShown_b23] at hm
  refine lv_aload_n hx hb d_Output_addShown_23 rfl (lv_at hl 0 rfl) ?_
  refine va_get (D := (dC, dI)) (ci := 6) (v := .ref ((u 39))) (C := R_Output) (T := F_Output) (N := 11) hx hb htt iw_Output hown hK hP 6 xo_6 rfl 9 (Nat.le_of_ble_eq_true rfl) (htt _ lk_Output_21) (fun _ h9 => h9) xg_6_9 d_Output_addShown_24 ?_
  refine lv_iconst (v := 0) hx hb d_Output_addShown_27 (by decide) ?_
  refine lv_iload_n hx hb d_Output_addShown_28 rfl (lv_at hl 1 rfl) ?_
  obtain ⟨h_1, hm⟩ := ck_some hm
  refine va_iast hx hb hK hP hD hS 41 0 twA_29 rfl h_1 d_Output_addShown_29 (fun H locs hP hD hS => ?_)
  obtain ⟨a_2, ea_2⟩ : ∃ y9 : Nat → Nat → Int32, y9 = sv a 29 (0 : Int32).toNatClampNeg v1 := ⟨_, rfl⟩
  replace hm := ob1_at ea_2 hm
  obtain ⟨hP, hD⟩ := xv_29 ea_2 hP hD
  refine lv_aload_n hx hb d_Output_addShown_30 rfl (lv_at hl 0 rfl) ?_
  refine va_get (D := (dC, dI)) (ci := 6) (v := .ref ((u 40))) (C := R_Output) (T := F_Output) (N := 11) hx hb htt iw_Output hown hK hP 6 xo_6 rfl 10 (Nat.le_of_ble_eq_true rfl) (htt _ lk_Output_24) (fun _ h9 => h9) xg_6_10 d_Output_addShown_31 ?_
  refine lv_iconst (v := 0) hx hb d_Output_addShown_34 (by decide) ?_
  refine lv_iconst (v := 0) hx hb d_Output_addShown_35 (by decide) ?_
  obtain ⟨h_3, hm⟩ := ck_some hm
  refine va_iast hx hb hK hP hD hS 42 0 twA_30 rfl h_3 d_Output_addShown_36 (fun H locs hP hD hS => ?_)
  obtain ⟨a_4, ea_4⟩ : ∃ y9 : Nat → Nat → Int32, y9 = sv a_2 30 (0 : Int32).toNatClampNeg 0 := ⟨_, rfl⟩
  replace hm := ob1_at ea_4 hm
  obtain ⟨hP, hD⟩ := xv_30 ea_4 hP hD
  refine lv_iconst (v := 1) hx hb d_Output_addShown_37 (by decide) ?_
  refine lv_istore_n (lv' := [(3, .int 1), (0, .ref ((u 6))), (1, .int v1), (2, .int v2)]) hx hb d_Output_addShown_38 rfl hl (by decide) rfl (fun ls hl => ?_)
  refine lv_iconst (v := 0) hx hb d_Output_addShown_39 (by decide) ?_
  refine lv_istore (lv' := [(4, .int 0), (3, .int 1), (0, .ref ((u 6))), (1, .int v1), (2, .int v2)]) hx hb d_Output_addShown_40 hl (by decide) rfl (fun ls hl => ?_)
  exact lb_Output_addShown_42 l dC dI cI adK adV adA u o g n hx hb hml hown hts hK hE hA hr hlocks n _ _ _ _ _ hm _ _ _ hP hD hS (lv_sub hl [2, 4, 1, 0] rfl)
def m_Output_addShown (n : Nat) (g : Nat → Nat) (i : Nat → Int32) (a : Nat → Nat → Int32) (v1 : Int32) (v2 : Int32) : Option ((Nat → Int32) × (Nat → Nat → Int32) × Int32) := ob0 (m_Heap_isList n v1) (fun r_2 => if r_2 = ((0 : Int32)) then ob (m_Output_addPlain n g i a v1) (fun i_10 a_11 r_12 => some (i_10, a_11, (0 : Int32))) else if v2 = ((0 : Int32)) then ob (m_Output_add n g i a (91 : Int32)) (fun i_6 a_7 r_8 => m_Output_addShown_b23 n g i_6 a_7 v1 v2) else m_Output_addShown_b23 n g i a v1 v2)
set_option maxHeartbeats 4000000 in
set_option maxRecDepth 100000 in
theorem x_Output_addShown (l : Launch) (dC : Nat → ClassId) (dI : Nat → Nat → Nat) (cI : ClassId) (adK adV adA u o g : Nat → Nat) (sz : Nat) (n : Nat) {i : Nat → Int32} {a : Nat → Nat → Int32} {v1 : Int32} {v2 : Int32} {i2 : Nat → Int32} {a2 : Nat → Nat → Int32} {r2 : Int32} (hm : m_Output_addShown n g i a v1 v2 = some (i2, a2, r2)) : Met l y_Output_addShown w_Output_addShown ({ frames := 2, cells := 0, slots := 0, locals := 50 } : Room) (va_Pc [.ref ((u 6)), .int v1, .int v2] (xE dC dI cI adK adV adA u o g i a sz)) (va_Qv xV (xB dC dI cI u o g i2 a2 (va_A (TW cI u o i a g) sz)) (va_A (TW cI u o i a g) sz)) 0 0 ((va_A (TW cI u o i a g) sz)) := by
  refine Met.ofW (cc := b_Output_addShown) (maxL := 7) (ret := none) (by decide) rfl ?_
  intro p e s m args below meth c s₁ B hml hv
  obtain ⟨rfl, hsz, hP, hK, hE, hD0⟩ := hv
  have hx := B.exec
  have hb := B.bytes
  have hr := B.returns
  have hts := atoms_spec (ws := w_Output_addShown) B.pre
  have htt : ∀ w ∈ tw_T, w.before _ s = true := fun w h => hts w (List.mem_cons_of_mem _ h)
  have hown : s.vm.findClass R_Output = some m.cls := findClass_of_methodNamed B.named
  have hlocks := B.notSynchronized
  subst hsz
  have hD := hD0.self (sz := s.heap.size)
  generalize hAe : (va_A (TW cI u o i a g) s.heap.size) = A at hD hE ⊢
  have hA : ∀ q : Nat, s.heap.size ≤ q → A q := fun q h => by rw [← hAe]; exact Or.inr h
  have hS : va_S A s.heap s.heap [] := va_S.rf
  have hl := lv_entry ([.ref ((u 6)), .int v1, .int v2]) (n := 7) (Nat.le_of_ble_eq_true rfl)
  rw [lg_entry_eq]
  generalize (lg_sl ([.ref ((u 6)), .int v1, .int v2]) ++ List.replicate (7 - (lg_sl ([.ref ((u 6)), .int v1, .int v2])).length) Slot.unset).toArray = ls at hl ⊢
  have hl : lv_has ls 7 [(0, .ref ((u 6))), (1, .int v1), (2, .int v2)] := hl
  rw [m_Output_addShown] at hm
  refine lv_iload_n hx hb d_Output_addShown_0 rfl (lv_at hl 1 rfl) ?_
  obtain ⟨r_2, h_1, hm⟩ := ob0_some hm
  have hFc := x_free0 hS hA
  refine va_calli (va_runS (As := [.int v1]) (rest := []) ⟨hx, hb, hml, hown, hts⟩ (x_Heap_isList l s.heap.size n h_1) (va_cwS 1 hts (tw_GS tw_cons cw_Heap_isList lk_Output_35 st_Heap_isList ini_Heap) rfl rfl rfl hd_Heap_isList ⟨Nat.le_of_ble_eq_true rfl, Nat.le_of_ble_eq_true rfl⟩) xpS0 rfl rfl hl.1 rfl (lv_room (Nat.le_of_ble_eq_true rfl)) d_Output_addShown_1 ⟨Nat.le_of_ble_eq_true rfl, Nat.le_of_ble_eq_true rfl⟩) hS (fun q _ h => hFc q h) hFc (fun r9 u9 t9 H locs ht hvm e9 hB hz1 hk1 hS => ?_)
  have e9 : r_2 = r9 := e9
  subst e9
  replace hP := x_keep hP hk1
  clear hFc hk1 hz1 hvm hB ht
  refine lv_if_ne (tgt := 13) hx hb d_Output_addShown_4 (by decide) (fun c_3 => ?_) (fun c_3 => ?_)
  · replace hm := if_f c_3 hm
    refine lv_iload_n hx hb d_Output_addShown_13 rfl (lv_at hl 2 rfl) ?_
    refine lv_if_ne (tgt := 23) hx hb d_Output_addShown_14 (by decide) (fun c_4 => ?_) (fun c_4 => ?_)
    · replace hm := if_f c_4 hm
      exact lb_Output_addShown_23 l dC dI cI adK adV adA u o g n hx hb hml hown hts hK hE hA hr hlocks _ _ _ _ hm _ _ _ hP hD hS (lv_sub hl [0, 1, 2] rfl)
    · replace hm := if_t c_4 hm
      refine lv_aload_n hx hb d_Output_addShown_17 rfl (lv_at hl 0 rfl) ?_
      refine lv_bipush (v := 91) hx hb d_Output_addShown_18 (by decide) ?_
      obtain ⟨i_6, a_7, r_8, h_5, hm⟩ := ob_some hm
      have hFc := x_free hD hS hA
      refine va_callv (va_runV (As := [.int 91]) (rest := []) ⟨hx, hb, hml, hown, hts⟩ (x_Output_add l dC dI cI adK adV adA u o g H.size n h_5) (cwV 1 hts (tw_GV tw_cons cw_Output_add lk_Output_45 in_Output_add sel_Output_add ini_Output) rfl rfl rfl ⟨rfl, hd_Output_add⟩ ⟨Nat.le_of_ble_eq_true rfl, Nat.le_of_ble_eq_true rfl⟩) (xpV hK hP hD hS hE hFc xo_6 rfl) rfl rfl hl.1 rfl (lv_room (Nat.le_of_ble_eq_true rfl)) d_Output_addShown_20 ⟨Nat.le_of_ble_eq_true rfl, Nat.le_of_ble_eq_true rfl⟩) hS (fun q _ h => hFc q h) hFc (fun u9 t9 H locs ht hvm e9 hB hz1 hk1 hS => ?_)
      obtain ⟨hP, hD⟩ := x_aft hB ht hFc
      clear hFc hk1 hz1 hvm hB ht
      exact lb_Output_addShown_23 l dC dI cI adK adV adA u o g n hx hb hml hown hts hK hE hA hr hlocks _ _ _ _ hm _ _ _ hP hD hS (lv_sub hl [0, 1, 2] rfl)
  · replace hm := if_t c_3 hm
    refine lv_aload_n hx hb d_Output_addShown_7 rfl (lv_at hl 0 rfl) ?_
    refine lv_iload_n hx hb d_Output_addShown_8 rfl (lv_at hl 1 rfl) ?_
    obtain ⟨i_10, a_11, r_12, h_9, hm⟩ := ob_some hm
    have hFc := x_free hD hS hA
    refine va_callv (va_runV (As := [.int v1]) (rest := []) ⟨hx, hb, hml, hown, hts⟩ (x_Output_addPlain l dC dI cI adK adV adA u o g H.size n h_9) (cwV 1 hts (tw_GV tw_cons cw_Output_addPlain lk_Output_41 in_Output_addPlain sel_Output_addPlain ini_Output) rfl rfl rfl ⟨rfl, hd_Output_addPlain⟩ ⟨Nat.le_of_ble_eq_true rfl, Nat.le_of_ble_eq_true rfl⟩) (xpV hK hP hD hS hE hFc xo_6 rfl) rfl rfl hl.1 rfl (lv_room (Nat.le_of_ble_eq_true rfl)) d_Output_addShown_9 ⟨Nat.le_of_ble_eq_true rfl, Nat.le_of_ble_eq_true rfl⟩) hS (fun q _ h => hFc q h) hFc (fun u9 t9 H locs ht hvm e9 hB hz1 hk1 hS => ?_)
    obtain ⟨hP, hD⟩ := x_aft hB ht hFc
    clear hFc hk1 hz1 hvm hB ht
    obtain ⟨e1i, e1a, e3⟩ := re3 hm
    obtain ⟨hP, hD⟩ := x_eq e1i e1a hP hD
    exact W.vret hx hb hr (fun t9 ht hW => ⟨⟨(), rfl, trivial, by rw [ht]; exact hP, hD⟩, hS.F ht⟩) hS.2.2 d_Output_addShown_12

def m_Names_make_b88 (n : Nat) (g : Nat → Nat) (i : Nat → Int32) (a : Nat → Nat → Int32) (v2 : Int32) (v4 : Int32) : Option ((Nat → Int32) × (Nat → Nat → Int32) × Int32) := ck v4 64 (ob1 (sv a 11 v4.toNatClampNeg v2 : Nat → Nat → Int32) (fun a_2 => some (i, a_2, (-2147483648))))
set_option maxHeartbeats 4000000 in
set_option maxRecDepth 100000 in
theorem lb_Names_make_88 (l : Launch) (dC : Nat → ClassId) (dI : Nat → Nat → Nat) (cI : ClassId) (adK adV adA u o g : Nat → Nat) (n : Nat) {p : Program} {e : Env} {s : State} {m : MethodId} {args : Array Value} {below : List Frame} {meth : Method} {c : Code} {A : Nat → Prop} (hx : p.tables.exec = Jvm.exec) (hb : c.code = b_Names_make) (hml : c.maxLocals = 5) (hown : s.vm.findClass R_Names = some m.cls) (hts : ∀ w ∈ w_Names_make, w.before args s = true) (hK : va_K (dC, dI) classes [(cI, .int)] s) (hE : tw_E adK adV adA A s s.heap) (hA : ∀ q : Nat, s.heap.size ≤ q → A q) (hr : meth.sig.returnType = (some .int)) (hlocks : meth.locks = false) {i2 : Nat → Int32} {a2 : Nat → Nat → Int32} {r2 : Int32} (i : Nat → Int32) (a : Nat → Nat → Int32) (v2 : Int32) (v4 : Int32) (hm : m_Names_make_b88 n g i a v2 v4 = some (i2, a2, r2)) : ∀ (H : Heap) (locs : List Loc) (ls : Array Slot), va_P (dC, dI) classes (TW cI u o i a g) H → va_D A (TW cI u o i a g) → va_S A s.heap H locs → lv_has ls 5 [(0, .ref ((u 3))), (2, .int v2), (4, .int v4)] → W p l e ({ frames := 2, cells := 0, slots := 0, locals := 49 } : Room) s m args below meth c H locs 0 0 (MQ below (va_Qi (xR r2) (xB dC dI cI u o g i2 a2 A) A) args s 0 0 A) (F0 m 88 ls []) := by
  have htt : ∀ w ∈ tw_T, w.before _ s = true := fun w h => hts w (List.mem_cons_of_mem _ h)
  intro H locs ls hP hD hS hl
  rw [m_Names_make_b88] at hm
  refine lv_aload_n hx hb d_Names_make_88 rfl (lv_at hl 0 rfl) ?_
  refine va_get (D := (dC, dI)) (ci := 3) (v := .ref ((u 21))) (C := R_Names) (T := F_Names) (N := 9) hx hb htt iw_Names hown hK hP 3 xo_3 rfl 2 (Nat.le_of_ble_eq_true rfl) (htt _ lk_Names_15) (fun _ h9 => h9) xg_3_2 d_Names_make_89 ?_
  refine lv_iload hx hb d_Names_make_92 (lv_at hl 2 rfl) ?_
  refine lv_iload_n hx hb d_Names_make_94 rfl (lv_at hl 1 rfl) ?_
  obtain ⟨h_1, hm⟩ := ck_some hm
  refine va_iast hx hb hK hP hD hS 23 0 twA_11 rfl h_1 d_Names_make_95 (fun H locs hP hD hS => ?_)
  obtain ⟨a_2, ea_2⟩ : ∃ y9 : Nat → Nat → Int32, y9 = sv a 11 v4.toNatClampNeg v2 := ⟨_, rfl⟩
  replace hm := ob1_at ea_2 hm
  obtain ⟨hP, hD⟩ := xv_11 ea_2 hP hD
  refine lv_ldc (v := (-2147483648)) hx hb hown (htt _ lk_Names_48) d_Names_make_96 ?_
  obtain ⟨e1i, e1a, e3⟩ := re3 hm
  obtain ⟨hP, hD⟩ := x_eq e1i e1a hP hD
  exact W.iret hx hb hr (fun t9 ht hW => ⟨⟨_, (), rfl, e3.symm, by rw [ht]; exact hP, hD⟩, hS.F ht⟩) hS.2.2 d_Names_make_98
def m_Names_make_b59 (n : Nat) (g : Nat → Nat) (i : Nat → Int32) (a : Nat → Nat → Int32) (v1 : Int32) (v2 : Int32) (v4 : Int32) : Option ((Nat → Int32) × (Nat → Nat → Int32) × Int32) := if ((0 : Int32)) ≤ v4 then m_Names_make_b88 n g i a v2 v4 else ob1 (i 12 : Int32) (fun x_2 => ck x_2 64 (ob1 (sv a 10 x_2.toNatClampNeg v1 : Nat → Nat → Int32) (fun a_4 => ob1 ((i 12) + 1 : Int32) (fun x_5 => ob1 (upd i 12 x_5 : Nat → Int32) (fun i_6 => m_Names_make_b88 n g i_6 a_4 v2 x_2)))))
set_option maxHeartbeats 4000000 in
set_option maxRecDepth 100000 in
theorem lb_Names_make_59 (l : Launch) (dC : Nat → ClassId) (dI : Nat → Nat → Nat) (cI : ClassId) (adK adV adA u o g : Nat → Nat) (n : Nat) {p : Program} {e : Env} {s : State} {m : MethodId} {args : Array Value} {below : List Frame} {meth : Method} {c : Code} {A : Nat → Prop} (hx : p.tables.exec = Jvm.exec) (hb : c.code = b_Names_make) (hml : c.maxLocals = 5) (hown : s.vm.findClass R_Names = some m.cls) (hts : ∀ w ∈ w_Names_make, w.before args s = true) (hK : va_K (dC, dI) classes [(cI, .int)] s) (hE : tw_E adK adV adA A s s.heap) (hA : ∀ q : Nat, s.heap.size ≤ q → A q) (hr : meth.sig.returnType = (some .int)) (hlocks : meth.locks = false) {i2 : Nat → Int32} {a2 : Nat → Nat → Int32} {r2 : Int32} (i : Nat → Int32) (a : Nat → Nat → Int32) (v1 : Int32) (v2 : Int32) (v4 : Int32) (hm : m_Names_make_b59 n g i a v1 v2 v4 = some (i2, a2, r2)) : ∀ (H : Heap) (locs : List Loc) (ls : Array Slot), va_P (dC, dI) classes (TW cI u o i a g) H → va_D A (TW cI u o i a g) → va_S A s.heap H locs → lv_has ls 5 [(0, .ref ((u 3))), (1, .int v1), (2, .int v2), (4, .int v4)] → W p l e ({ frames := 2, cells := 0, slots := 0, locals := 49 } : Room) s m args below meth c H locs 0 0 (MQ below (va_Qi (xR r2) (xB dC dI cI u o g i2 a2 A) A) args s 0 0 A) (F0 m 59 ls []) := by
  have htt : ∀ w ∈ tw_T, w.before _ s = true := fun w h => hts w (List.mem_cons_of_mem _ h)
  intro H locs ls hP hD hS hl
  rw [m_Names_make_b59] at hm
  refine lv_iload hx hb d_Names_make_59 (lv_at hl 3 rfl) ?_
  refine lv_if_ge (tgt := 88) hx hb d_Names_make_61 (by decide) (fun c_1 => ?_) (fun c_1 => ?_)
  · replace hm := if_t c_1 hm
    exact lb_Names_make_88 l dC dI cI adK adV adA u o g n hx hb hml hown hts hK hE hA hr hlocks _ _ _ _ hm _ _ _ hP hD hS (lv_sub hl [0, 2, 3] rfl)
  · replace hm := if_f c_1 hm
    refine lv_aload_n hx hb d_Names_make_64 rfl (lv_at hl 0 rfl) ?_
    refine va_get (D := (dC, dI)) (ci := 3) (v := .int (i 12)) (C := R_Names) (T := F_Names) (N := 9) hx hb htt iw_Names hown hK hP 3 xo_3 rfl 3 (Nat.le_of_ble_eq_true rfl) (htt _ lk_Names_41) (fun _ h9 => h9) xg_3_3 d_Names_make_65 ?_
    refine lv_topi (fun x_2 ex_2 => ?_)
    replace hm := ob1_at ex_2 hm
    refine lv_istore (lv' := [(4, .int x_2), (0, .ref ((u 3))), (1, .int v1), (2, .int v2)]) hx hb d_Names_make_68 hl (by decide) rfl (fun ls hl => ?_)
    refine lv_aload_n hx hb d_Names_make_70 rfl (lv_at hl 1 rfl) ?_
    refine va_get (D := (dC, dI)) (ci := 3) (v := .ref ((u 20))) (C := R_Names) (T := F_Names) (N := 9) hx hb htt iw_Names hown hK hP 3 xo_3 rfl 1 (Nat.le_of_ble_eq_true rfl) (htt _ lk_Names_11) (fun _ h9 => h9) xg_3_1 d_Names_make_71 ?_
    refine lv_iload hx hb d_Names_make_74 (lv_at hl 0 rfl) ?_
    refine lv_iload_n hx hb d_Names_make_76 rfl (lv_at hl 2 rfl) ?_
    obtain ⟨h_3, hm⟩ := ck_some hm
    refine va_iast hx hb hK hP hD hS 22 0 twA_10 rfl h_3 d_Names_make_77 (fun H locs hP hD hS => ?_)
    obtain ⟨a_4, ea_4⟩ : ∃ y9 : Nat → Nat → Int32, y9 = sv a 10 x_2.toNatClampNeg v1 := ⟨_, rfl⟩
    replace hm := ob1_at ea_4 hm
    obtain ⟨hP, hD⟩ := xv_10 ea_4 hP hD
    refine lv_aload_n hx hb d_Names_make_78 rfl (lv_at hl 1 rfl) ?_
    refine lv_dup hx hb d_Names_make_79 rfl ?_
    refine va_get (D := (dC, dI)) (ci := 3) (v := .int (i 12)) (C := R_Names) (T := F_Names) (N := 9) hx hb htt iw_Names hown hK hP 3 xo_3 rfl 3 (Nat.le_of_ble_eq_true rfl) (htt _ lk_Names_41) (fun _ h9 => h9) xg_3_3 d_Names_make_80 ?_
    refine lv_iconst (v := 1) hx hb d_Names_make_83 (by decide) ?_
    refine lv_iadd hx hb d_Names_make_84 ?_
    refine lv_topi (fun x_5 ex_5 => ?_)
    replace hm := ob1_at ex_5 hm
    refine va_put (D := (dC, dI)) (ci := 3) (v := .int x_5) (ty := .int) (C := R_Names) (T := F_Names) (N := 9) hx hb htt iw_Names t_Names t_Names_ok n_Names hown hK hP hD hS 3 xo_3 rfl 3 (Nat.le_of_ble_eq_true rfl) (htt _ lk_Names_41) (fun _ h9 => h9) rfl (by decide +kernel) rfl rfl xl_3_3 d_Names_make_85 (fun H locs hP hD hS => ?_)
    obtain ⟨i_6, ei_6⟩ : ∃ y9 : Nat → Int32, y9 = upd i 12 x_5 := ⟨_, rfl⟩
    replace hm := ob1_at ei_6 hm
    obtain ⟨hP, hD⟩ := xw_12 ei_6 hP hD
    exact lb_Names_make_88 l dC dI cI adK adV adA u o g n hx hb hml hown hts hK hE hA hr hlocks _ _ _ _ hm _ _ _ hP hD hS (lv_sub hl [1, 3, 0] rfl)
def m_Names_make (n : Nat) (g : Nat → Nat) (i : Nat → Int32) (a : Nat → Nat → Int32) (v1 : Int32) (v2 : Int32) : Option ((Nat → Int32) × (Nat → Nat → Int32) × Int32) := ob0 (m_Names_findLocal n g i a v1 (0 : Int32)) (fun r_2 => if r_2 < ((0 : Int32)) then ob0 (m_Names_findGlobal n g i a v1) (fun r_5 => ob0 (m_Heap_size n g i a v2) (fun r_7 => if ((300 : Int32)) < r_7 then some (i, a, (-2147483640)) else if ((0 : Int32)) ≤ r_5 then m_Names_make_b59 n g i a v1 v2 r_5 else if ((i 12)) < ((64 : Int32)) then m_Names_make_b59 n g i a v1 v2 r_5 else some (i, a, (-2147483640)))) else ck r_2 1800 (ob1 (sv a 13 r_2.toNatClampNeg v2 : Nat → Nat → Int32) (fun a_12 => some (i, a_12, (-2147483648)))))
set_option maxHeartbeats 4000000 in
set_option maxRecDepth 100000 in
theorem x_Names_make (l : Launch) (dC : Nat → ClassId) (dI : Nat → Nat → Nat) (cI : ClassId) (adK adV adA u o g : Nat → Nat) (sz : Nat) (n : Nat) {i : Nat → Int32} {a : Nat → Nat → Int32} {v1 : Int32} {v2 : Int32} {i2 : Nat → Int32} {a2 : Nat → Nat → Int32} {r2 : Int32} (hm : m_Names_make n g i a v1 v2 = some (i2, a2, r2)) : Met l y_Names_make w_Names_make ({ frames := 2, cells := 0, slots := 0, locals := 49 } : Room) (va_Pc [.ref ((u 3)), .int v1, .int v2] (xE dC dI cI adK adV adA u o g i a sz)) (va_Qi (xR r2) (xB dC dI cI u o g i2 a2 (va_A (TW cI u o i a g) sz)) (va_A (TW cI u o i a g) sz)) 0 0 ((va_A (TW cI u o i a g) sz)) := by
  refine Met.ofW (cc := b_Names_make) (maxL := 5) (ret := (some .int)) (by decide) rfl ?_
  intro p e s m args below meth c s₁ B hml hv
  obtain ⟨rfl, hsz, hP, hK, hE, hD0⟩ := hv
  have hx := B.exec
  have hb := B.bytes
  have hr := B.returns
  have hts := atoms_spec (ws := w_Names_make) B.pre
  have htt : ∀ w ∈ tw_T, w.before _ s = true := fun w h => hts w (List.mem_cons_of_mem _ h)
  have hown : s.vm.findClass R_Names = some m.cls := findClass_of_methodNamed B.named
  have hlocks := B.notSynchronized
  subst hsz
  have hD := hD0.self (sz := s.heap.size)
  generalize hAe : (va_A (TW cI u o i a g) s.heap.size) = A at hD hE ⊢
  have hA : ∀ q : Nat, s.heap.size ≤ q → A q := fun q h => by rw [← hAe]; exact Or.inr h
  have hS : va_S A s.heap s.heap [] := va_S.rf
  have hl := lv_entry ([.ref ((u 3)), .int v1, .int v2]) (n := 5) (Nat.le_of_ble_eq_true rfl)
  rw [lg_entry_eq]
  generalize (lg_sl ([.ref ((u 3)), .int v1, .int v2]) ++ List.replicate (5 - (lg_sl ([.ref ((u 3)), .int v1, .int v2])).length) Slot.unset).toArray = ls at hl ⊢
  have hl : lv_has ls 5 [(0, .ref ((u 3))), (1, .int v1), (2, .int v2)] := hl
  rw [m_Names_make] at hm
  refine lv_aload_n hx hb d_Names_make_0 rfl (lv_at hl 0 rfl) ?_
  refine lv_iload_n hx hb d_Names_make_1 rfl (lv_at hl 1 rfl) ?_
  refine lv_iconst (v := 0) hx hb d_Names_make_2 (by decide) ?_
  obtain ⟨r_2, h_1, hm⟩ := ob0_some hm
  have hFc := x_free0 hS hA
  refine va_calli (va_runV (As := [.int v1, .int 0]) (rest := []) ⟨hx, hb, hml, hown, hts⟩ (x_Names_findLocal l dC dI cI adK adV adA u o g s.heap.size n h_1) (cwV 2 hts (tw_GV tw_cons cw_Names_findLocal lk_Names_44 in_Names_findLocal sel_Names_findLocal ini_Names) rfl rfl rfl ⟨rfl, hd_Names_findLocal⟩ ⟨Nat.le_of_ble_eq_true rfl, Nat.le_of_ble_eq_true rfl⟩) (xpVr hK hP hS hE hFc xo_3 rfl) rfl rfl hl.1 rfl (lv_room (Nat.le_of_ble_eq_true rfl)) d_Names_make_3 ⟨Nat.le_of_ble_eq_true rfl, Nat.le_of_ble_eq_true rfl⟩) hS (fun q _ h => hFc q h) hFc (fun r9 u9 t9 H locs ht hvm e9 hB hz1 hk1 hS => ?_)
  have e9 : r_2 = r9 := e9
  subst e9
  replace hP := x_keep hP hk1
  clear hFc hk1 hz1 hvm hB ht
  refine lv_istore_n (lv' := [(3, .int r_2), (0, .ref ((u 3))), (1, .int v1), (2, .int v2)]) hx hb d_Names_make_6 rfl hl (by decide) rfl (fun ls hl => ?_)
  refine lv_iload_n hx hb d_Names_make_7 rfl (lv_at hl 0 rfl) ?_
  refine lv_if_lt (tgt := 21) hx hb d_Names_make_8 (by decide) (fun c_3 => ?_) (fun c_3 => ?_)
  · replace hm := if_t c_3 hm
    refine lv_aload_n hx hb d_Names_make_21 rfl (lv_at hl 1 rfl) ?_
    refine lv_iload_n hx hb d_Names_make_22 rfl (lv_at hl 2 rfl) ?_
    obtain ⟨r_5, h_4, hm⟩ := ob0_some hm
    have hFc := x_free0 hS hA
    refine va_calli (va_runV (As := [.int v1]) (rest := []) ⟨hx, hb, hml, hown, hts⟩ (x_Names_findGlobal l dC dI cI adK adV adA u o g H.size n h_4) (cwV 1 hts (tw_GV tw_cons cw_Names_findGlobal lk_Names_50 in_Names_findGlobal sel_Names_findGlobal ini_Names) rfl rfl rfl ⟨rfl, hd_Names_findGlobal⟩ ⟨Nat.le_of_ble_eq_true rfl, Nat.le_of_ble_eq_true rfl⟩) (xpVr hK hP hS hE hFc xo_3 rfl) rfl rfl hl.1 rfl (lv_room (Nat.le_of_ble_eq_true rfl)) d_Names_make_23 ⟨Nat.le_of_ble_eq_true rfl, Nat.le_of_ble_eq_true rfl⟩) hS (fun q _ h => hFc q h) hFc (fun r9 u9 t9 H locs ht hvm e9 hB hz1 hk1 hS => ?_)
    have e9 : r_5 = r9 := e9
    subst e9
    replace hP := x_keep hP hk1
    clear hFc hk1 hz1 hvm hB ht
    refine lv_istore (lv' := [(4, .int r_5), (3, .int r_2), (0, .ref ((u 3))), (1, .int v1), (2, .int v2)]) hx hb d_Names_make_26 hl (by decide) rfl (fun ls hl => ?_)
    refine lv_aload_n hx hb d_Names_make_28 rfl (lv_at hl 2 rfl) ?_
    refine va_get (D := (dC, dI)) (ci := 3) (v := .ref ((u 1))) (C := R_Names) (T := F_Names) (N := 9) hx hb htt iw_Names hown hK hP 3 xo_3 rfl 0 (Nat.le_of_ble_eq_true rfl) (htt _ lk_Names_27) (fun _ h9 => h9) xg_3_0 d_Names_make_29 ?_
    refine lv_iload_n hx hb d_Names_make_32 rfl (lv_at hl 4 rfl) ?_
    obtain ⟨r_7, h_6, hm⟩ := ob0_some hm
    have hFc := x_free0 hS hA
    refine va_calli (va_runV (As := [.int v2]) (rest := []) ⟨hx, hb, hml, hown, hts⟩ (x_Heap_size l dC dI cI adK adV adA u o g H.size n h_6) (cwV 1 hts (tw_GV tw_cons cw_Heap_size lk_Names_54 in_Heap_size sel_Heap_size ini_Heap) rfl rfl rfl ⟨rfl, hd_Heap_size⟩ ⟨Nat.le_of_ble_eq_true rfl, Nat.le_of_ble_eq_true rfl⟩) (xpVr hK hP hS hE hFc xo_1 rfl) rfl rfl hl.1 rfl (lv_room (Nat.le_of_ble_eq_true rfl)) d_Names_make_33 ⟨Nat.le_of_ble_eq_true rfl, Nat.le_of_ble_eq_true rfl⟩) hS (fun q _ h => hFc q h) hFc (fun r9 u9 t9 H locs ht hvm e9 hB hz1 hk1 hS => ?_)
    have e9 : r_7 = r9 := e9
    subst e9
    replace hP := x_keep hP hk1
    clear hFc hk1 hz1 hvm hB ht
    refine lv_sipush (v := 300) hx hb d_Names_make_36 (by decide) ?_
    refine lv_icmp_gt (tgt := 56) hx hb d_Names_make_39 (by decide) (fun c_8 => ?_) (fun c_8 => ?_)
    · replace hm := if_t c_8 hm
      refine lv_ldc (v := (-2147483640)) hx hb hown (htt _ lk_Names_57) d_Names_make_56 ?_
      obtain ⟨e1i, e1a, e3⟩ := re3 hm
      obtain ⟨hP, hD⟩ := x_eq e1i e1a hP hD
      exact W.iret hx hb hr (fun t9 ht hW => ⟨⟨_, (), rfl, e3.symm, by rw [ht]; exact hP, hD⟩, hS.F ht⟩) hS.2.2 d_Names_make_58
    · replace hm := if_f c_8 hm
      refine lv_iload hx hb d_Names_make_42 (lv_at hl 0 rfl) ?_
      refine lv_if_ge (tgt := 59) hx hb d_Names_make_44 (by decide) (fun c_9 => ?_) (fun c_9 => ?_)
      · replace hm := if_t c_9 hm
        exact lb_Names_make_59 l dC dI cI adK adV adA u o g n hx hb hml hown hts hK hE hA hr hlocks _ _ _ _ _ hm _ _ _ hP hD hS (lv_sub hl [2, 3, 4, 0] rfl)
      · replace hm := if_f c_9 hm
        refine lv_aload_n hx hb d_Names_make_47 rfl (lv_at hl 2 rfl) ?_
        refine va_get (D := (dC, dI)) (ci := 3) (v := .int (i 12)) (C := R_Names) (T := F_Names) (N := 9) hx hb htt iw_Names hown hK hP 3 xo_3 rfl 3 (Nat.le_of_ble_eq_true rfl) (htt _ lk_Names_41) (fun _ h9 => h9) xg_3_3 d_Names_make_48 ?_
        refine lv_bipush (v := 64) hx hb d_Names_make_51 (by decide) ?_
        refine lv_icmp_lt (tgt := 59) hx hb d_Names_make_53 (by decide) (fun c_10 => ?_) (fun c_10 => ?_)
        · replace hm := if_t c_10 hm
          exact lb_Names_make_59 l dC dI cI adK adV adA u o g n hx hb hml hown hts hK hE hA hr hlocks _ _ _ _ _ hm _ _ _ hP hD hS (lv_sub hl [2, 3, 4, 0] rfl)
        · replace hm := if_f c_10 hm
          refine lv_ldc (v := (-2147483640)) hx hb hown (htt _ lk_Names_57) d_Names_make_56 ?_
          obtain ⟨e1i, e1a, e3⟩ := re3 hm
          obtain ⟨hP, hD⟩ := x_eq e1i e1a hP hD
          exact W.iret hx hb hr (fun t9 ht hW => ⟨⟨_, (), rfl, e3.symm, by rw [ht]; exact hP, hD⟩, hS.F ht⟩) hS.2.2 d_Names_make_58
  · replace hm := if_f c_3 hm
    refine lv_aload_n hx hb d_Names_make_11 rfl (lv_at hl 1 rfl) ?_
    refine va_get (D := (dC, dI)) (ci := 3) (v := .ref ((u 23))) (C := R_Names) (T := F_Names) (N := 9) hx hb htt iw_Names hown hK hP 3 xo_3 rfl 5 (Nat.le_of_ble_eq_true rfl) (htt _ lk_Names_21) (fun _ h9 => h9) xg_3_5 d_Names_make_12 ?_
    refine lv_iload_n hx hb d_Names_make_15 rfl (lv_at hl 0 rfl) ?_
    refine lv_iload_n hx hb d_Names_make_16 rfl (lv_at hl 3 rfl) ?_
    obtain ⟨h_11, hm⟩ := ck_some hm
    refine va_iast hx hb hK hP hD hS 25 0 twA_13 rfl h_11 d_Names_make_17 (fun H locs hP hD hS => ?_)
    obtain ⟨a_12, ea_12⟩ : ∃ y9 : Nat → Nat → Int32, y9 = sv a 13 r_2.toNatClampNeg v2 := ⟨_, rfl⟩
    replace hm := ob1_at ea_12 hm
    obtain ⟨hP, hD⟩ := xv_13 ea_12 hP hD
    refine lv_ldc (v := (-2147483648)) hx hb hown (htt _ lk_Names_48) d_Names_make_18 ?_
    obtain ⟨e1i, e1a, e3⟩ := re3 hm
    obtain ⟨hP, hD⟩ := x_eq e1i e1a hP hD
    exact W.iret hx hb hr (fun t9 ht hW => ⟨⟨_, (), rfl, e3.symm, by rw [ht]; exact hP, hD⟩, hS.F ht⟩) hS.2.2 d_Names_make_20
