theorem d_Model_keep_0 : decode b_Model_keep 0 = .ok (.aload_n 0, 1) := by decide +kernel
theorem d_Model_keep_1 : decode b_Model_keep 1 = .ok (.getfield 183, 3) := by decide +kernel
theorem d_Model_keep_4 : decode b_Model_keep 4 = .ok (.iconst 0, 1) := by decide +kernel
theorem d_Model_keep_5 : decode b_Model_keep 5 = .ok (.aload_n 0, 1) := by decide +kernel
theorem d_Model_keep_6 : decode b_Model_keep 6 = .ok (.getfield 228, 3) := by decide +kernel
theorem d_Model_keep_9 : decode b_Model_keep 9 = .ok (.iconst 0, 1) := by decide +kernel
theorem d_Model_keep_10 : decode b_Model_keep 10 = .ok (.bipush 40, 2) := by decide +kernel
theorem d_Model_keep_12 : decode b_Model_keep 12 = .ok (.invokestatic 334, 3) := by decide +kernel
theorem d_Model_keep_15 : decode b_Model_keep 15 = .ok (.aload_n 0, 1) := by decide +kernel
theorem d_Model_keep_16 : decode b_Model_keep 16 = .ok (.getfield 186, 3) := by decide +kernel
theorem d_Model_keep_19 : decode b_Model_keep 19 = .ok (.iconst 0, 1) := by decide +kernel
theorem d_Model_keep_20 : decode b_Model_keep 20 = .ok (.aload_n 0, 1) := by decide +kernel
theorem d_Model_keep_21 : decode b_Model_keep 21 = .ok (.getfield 231, 3) := by decide +kernel
theorem d_Model_keep_24 : decode b_Model_keep 24 = .ok (.iconst 0, 1) := by decide +kernel
theorem d_Model_keep_25 : decode b_Model_keep 25 = .ok (.bipush 40, 2) := by decide +kernel
theorem d_Model_keep_27 : decode b_Model_keep 27 = .ok (.invokestatic 334, 3) := by decide +kernel
theorem d_Model_keep_30 : decode b_Model_keep 30 = .ok (.aload_n 0, 1) := by decide +kernel
theorem d_Model_keep_31 : decode b_Model_keep 31 = .ok (.getfield 189, 3) := by decide +kernel
theorem d_Model_keep_34 : decode b_Model_keep 34 = .ok (.iconst 0, 1) := by decide +kernel
theorem d_Model_keep_35 : decode b_Model_keep 35 = .ok (.aload_n 0, 1) := by decide +kernel
theorem d_Model_keep_36 : decode b_Model_keep 36 = .ok (.getfield 234, 3) := by decide +kernel
theorem d_Model_keep_39 : decode b_Model_keep 39 = .ok (.iconst 0, 1) := by decide +kernel
theorem d_Model_keep_40 : decode b_Model_keep 40 = .ok (.sipush 200, 3) := by decide +kernel
theorem d_Model_keep_43 : decode b_Model_keep 43 = .ok (.invokestatic 334, 3) := by decide +kernel
theorem d_Model_keep_46 : decode b_Model_keep 46 = .ok (.aload_n 0, 1) := by decide +kernel
theorem d_Model_keep_47 : decode b_Model_keep 47 = .ok (.getfield 192, 3) := by decide +kernel
theorem d_Model_keep_50 : decode b_Model_keep 50 = .ok (.iconst 0, 1) := by decide +kernel
theorem d_Model_keep_51 : decode b_Model_keep 51 = .ok (.aload_n 0, 1) := by decide +kernel
theorem d_Model_keep_52 : decode b_Model_keep 52 = .ok (.getfield 246, 3) := by decide +kernel
theorem d_Model_keep_55 : decode b_Model_keep 55 = .ok (.iconst 0, 1) := by decide +kernel
theorem d_Model_keep_56 : decode b_Model_keep 56 = .ok (.bipush 40, 2) := by decide +kernel
theorem d_Model_keep_58 : decode b_Model_keep 58 = .ok (.invokestatic 334, 3) := by decide +kernel
theorem d_Model_keep_61 : decode b_Model_keep 61 = .ok (.aload_n 0, 1) := by decide +kernel
theorem d_Model_keep_62 : decode b_Model_keep 62 = .ok (.getfield 195, 3) := by decide +kernel
theorem d_Model_keep_65 : decode b_Model_keep 65 = .ok (.iconst 0, 1) := by decide +kernel
theorem d_Model_keep_66 : decode b_Model_keep 66 = .ok (.aload_n 0, 1) := by decide +kernel
theorem d_Model_keep_67 : decode b_Model_keep 67 = .ok (.getfield 237, 3) := by decide +kernel
theorem d_Model_keep_70 : decode b_Model_keep 70 = .ok (.iconst 0, 1) := by decide +kernel
theorem d_Model_keep_71 : decode b_Model_keep 71 = .ok (.bipush 64, 2) := by decide +kernel
theorem d_Model_keep_73 : decode b_Model_keep 73 = .ok (.invokestatic 334, 3) := by decide +kernel
theorem d_Model_keep_76 : decode b_Model_keep 76 = .ok (.aload_n 0, 1) := by decide +kernel
theorem d_Model_keep_77 : decode b_Model_keep 77 = .ok (.getfield 198, 3) := by decide +kernel
theorem d_Model_keep_80 : decode b_Model_keep 80 = .ok (.iconst 0, 1) := by decide +kernel
theorem d_Model_keep_81 : decode b_Model_keep 81 = .ok (.aload_n 0, 1) := by decide +kernel
theorem d_Model_keep_82 : decode b_Model_keep 82 = .ok (.getfield 249, 3) := by decide +kernel
theorem d_Model_keep_85 : decode b_Model_keep 85 = .ok (.iconst 0, 1) := by decide +kernel
theorem d_Model_keep_86 : decode b_Model_keep 86 = .ok (.bipush 64, 2) := by decide +kernel
theorem d_Model_keep_88 : decode b_Model_keep 88 = .ok (.invokestatic 334, 3) := by decide +kernel
theorem d_Model_keep_91 : decode b_Model_keep 91 = .ok (.iconst 0, 1) := by decide +kernel
theorem d_Model_keep_92 : decode b_Model_keep 92 = .ok (.istore_n 1, 1) := by decide +kernel
theorem d_Model_keep_93 : decode b_Model_keep 93 = .ok (.iload_n 1, 1) := by decide +kernel
theorem d_Model_keep_94 : decode b_Model_keep 94 = .ok (.bipush 7, 2) := by decide +kernel
theorem d_Model_keep_96 : decode b_Model_keep 96 = .ok (.if_icmp .ge 28, 3) := by decide +kernel
theorem d_Model_keep_99 : decode b_Model_keep 99 = .ok (.aload_n 0, 1) := by decide +kernel
theorem d_Model_keep_100 : decode b_Model_keep 100 = .ok (.iload_n 1, 1) := by decide +kernel
theorem d_Model_keep_101 : decode b_Model_keep 101 = .ok (.invokevirtual 340, 3) := by decide +kernel
theorem d_Model_keep_104 : decode b_Model_keep 104 = .ok (.iconst 0, 1) := by decide +kernel
theorem d_Model_keep_105 : decode b_Model_keep 105 = .ok (.aload_n 0, 1) := by decide +kernel
theorem d_Model_keep_106 : decode b_Model_keep 106 = .ok (.getfield 240, 3) := by decide +kernel
theorem d_Model_keep_109 : decode b_Model_keep 109 = .ok (.bipush 8, 2) := by decide +kernel
theorem d_Model_keep_111 : decode b_Model_keep 111 = .ok (.iload_n 1, 1) := by decide +kernel
theorem d_Model_keep_112 : decode b_Model_keep 112 = .ok (.imul, 1) := by decide +kernel
theorem d_Model_keep_113 : decode b_Model_keep 113 = .ok (.bipush 8, 2) := by decide +kernel
theorem d_Model_keep_115 : decode b_Model_keep 115 = .ok (.invokestatic 334, 3) := by decide +kernel
theorem d_Model_keep_118 : decode b_Model_keep 118 = .ok (.iinc 1 1, 3) := by decide +kernel
theorem d_Model_keep_121 : decode b_Model_keep 121 = .ok (.goto (-28), 3) := by decide +kernel
theorem d_Model_keep_124 : decode b_Model_keep 124 = .ok (.aload_n 0, 1) := by decide +kernel
theorem d_Model_keep_125 : decode b_Model_keep 125 = .ok (.getfield 222, 3) := by decide +kernel
theorem d_Model_keep_128 : decode b_Model_keep 128 = .ok (.iconst 0, 1) := by decide +kernel
theorem d_Model_keep_129 : decode b_Model_keep 129 = .ok (.aload_n 0, 1) := by decide +kernel
theorem d_Model_keep_130 : decode b_Model_keep 130 = .ok (.getfield 243, 3) := by decide +kernel
theorem d_Model_keep_133 : decode b_Model_keep 133 = .ok (.iconst 0, 1) := by decide +kernel
theorem d_Model_keep_134 : decode b_Model_keep 134 = .ok (.sipush 4096, 3) := by decide +kernel
theorem d_Model_keep_137 : decode b_Model_keep 137 = .ok (.invokestatic 334, 3) := by decide +kernel
theorem d_Model_keep_140 : decode b_Model_keep 140 = .ok (.aload_n 0, 1) := by decide +kernel
theorem d_Model_keep_141 : decode b_Model_keep 141 = .ok (.getfield 225, 3) := by decide +kernel
theorem d_Model_keep_144 : decode b_Model_keep 144 = .ok (.iconst 0, 1) := by decide +kernel
theorem d_Model_keep_145 : decode b_Model_keep 145 = .ok (.aload_n 0, 1) := by decide +kernel
theorem d_Model_keep_146 : decode b_Model_keep 146 = .ok (.getfield 252, 3) := by decide +kernel
theorem d_Model_keep_149 : decode b_Model_keep 149 = .ok (.iconst 0, 1) := by decide +kernel
theorem d_Model_keep_150 : decode b_Model_keep 150 = .ok (.sipush 2000, 3) := by decide +kernel
theorem d_Model_keep_153 : decode b_Model_keep 153 = .ok (.invokestatic 334, 3) := by decide +kernel
theorem d_Model_keep_156 : decode b_Model_keep 156 = .ok (.aload_n 0, 1) := by decide +kernel
theorem d_Model_keep_157 : decode b_Model_keep 157 = .ok (.aload_n 0, 1) := by decide +kernel
theorem d_Model_keep_158 : decode b_Model_keep 158 = .ok (.getfield 344, 3) := by decide +kernel
theorem d_Model_keep_161 : decode b_Model_keep 161 = .ok (.putfield 347, 3) := by decide +kernel
theorem d_Model_keep_164 : decode b_Model_keep 164 = .ok (.aload_n 0, 1) := by decide +kernel
theorem d_Model_keep_165 : decode b_Model_keep 165 = .ok (.aload_n 0, 1) := by decide +kernel
theorem d_Model_keep_166 : decode b_Model_keep 166 = .ok (.getfield 350, 3) := by decide +kernel
theorem d_Model_keep_169 : decode b_Model_keep 169 = .ok (.putfield 353, 3) := by decide +kernel
theorem d_Model_keep_172 : decode b_Model_keep 172 = .ok (.aload_n 0, 1) := by decide +kernel
theorem d_Model_keep_173 : decode b_Model_keep 173 = .ok (.aload_n 0, 1) := by decide +kernel
theorem d_Model_keep_174 : decode b_Model_keep 174 = .ok (.getfield 356, 3) := by decide +kernel
theorem d_Model_keep_177 : decode b_Model_keep 177 = .ok (.putfield 360, 3) := by decide +kernel
theorem d_Model_keep_180 : decode b_Model_keep 180 = .ok (.aload_n 0, 1) := by decide +kernel
theorem d_Model_keep_181 : decode b_Model_keep 181 = .ok (.aload_n 0, 1) := by decide +kernel
theorem d_Model_keep_182 : decode b_Model_keep 182 = .ok (.getfield 331, 3) := by decide +kernel
theorem d_Model_keep_185 : decode b_Model_keep 185 = .ok (.putfield 363, 3) := by decide +kernel
theorem d_Model_keep_188 : decode b_Model_keep 188 = .ok (.aload_n 0, 1) := by decide +kernel
theorem d_Model_keep_189 : decode b_Model_keep 189 = .ok (.aload_n 0, 1) := by decide +kernel
theorem d_Model_keep_190 : decode b_Model_keep 190 = .ok (.getfield 366, 3) := by decide +kernel
theorem d_Model_keep_193 : decode b_Model_keep 193 = .ok (.putfield 369, 3) := by decide +kernel
theorem d_Model_keep_196 : decode b_Model_keep 196 = .ok (.aload_n 0, 1) := by decide +kernel
theorem d_Model_keep_197 : decode b_Model_keep 197 = .ok (.aload_n 0, 1) := by decide +kernel
theorem d_Model_keep_198 : decode b_Model_keep 198 = .ok (.getfield 372, 3) := by decide +kernel
theorem d_Model_keep_201 : decode b_Model_keep 201 = .ok (.putfield 375, 3) := by decide +kernel
theorem d_Model_keep_204 : decode b_Model_keep 204 = .ok (.aload_n 0, 1) := by decide +kernel
theorem d_Model_keep_205 : decode b_Model_keep 205 = .ok (.aload_n 0, 1) := by decide +kernel
theorem d_Model_keep_206 : decode b_Model_keep 206 = .ok (.getfield 19, 3) := by decide +kernel
theorem d_Model_keep_209 : decode b_Model_keep 209 = .ok (.putfield 378, 3) := by decide +kernel
theorem d_Model_keep_212 : decode b_Model_keep 212 = .ok (.aload_n 0, 1) := by decide +kernel
theorem d_Model_keep_213 : decode b_Model_keep 213 = .ok (.aload_n 0, 1) := by decide +kernel
theorem d_Model_keep_214 : decode b_Model_keep 214 = .ok (.getfield 32, 3) := by decide +kernel
theorem d_Model_keep_217 : decode b_Model_keep 217 = .ok (.putfield 381, 3) := by decide +kernel
theorem d_Model_keep_220 : decode b_Model_keep 220 = .ok (.aload_n 0, 1) := by decide +kernel
theorem d_Model_keep_221 : decode b_Model_keep 221 = .ok (.aload_n 0, 1) := by decide +kernel
theorem d_Model_keep_222 : decode b_Model_keep 222 = .ok (.getfield 44, 3) := by decide +kernel
theorem d_Model_keep_225 : decode b_Model_keep 225 = .ok (.putfield 384, 3) := by decide +kernel
theorem d_Model_keep_228 : decode b_Model_keep 228 = .ok (.return_, 1) := by decide +kernel
theorem lk_Model_340 : Cond.methodLink "TurtleWorldModel" 340 ⟨"TurtleWorldModel", "turtleRow", "(I)[I"⟩ ∈ tw_T := tw_i10 138 (by decide +kernel) (by decide +kernel)
theorem in_Model_turtleRow : Cond.instanceMethod ⟨"TurtleWorldModel", "turtleRow", "(I)[I"⟩ ∈ tw_T := tw_i10 140 (by decide +kernel) (by decide +kernel)
theorem sel_Model_turtleRow : Cond.selects "TurtleWorldModel" ⟨"TurtleWorldModel", "turtleRow", "(I)[I"⟩ ⟨"TurtleWorldModel", "turtleRow", "(I)[I"⟩ ∈ tw_T := tw_inS 112 (by decide +kernel) (by decide +kernel)
theorem lk_Model_347 : Cond.fieldLink "TurtleWorldModel" 347 "TurtleWorldModel" "procsWere" "I" ∈ tw_T := tw_i8 137 (by decide +kernel) (by decide +kernel)
theorem lk_Model_353 : Cond.fieldLink "TurtleWorldModel" 353 "TurtleWorldModel" "globalsWere" "I" ∈ tw_T := tw_i8 138 (by decide +kernel) (by decide +kernel)
theorem lk_Model_360 : Cond.fieldLink "TurtleWorldModel" 360 "TurtleWorldModel" "outsWere" "J" ∈ tw_T := tw_i8 136 (by decide +kernel) (by decide +kernel)
theorem lk_Model_363 : Cond.fieldLink "TurtleWorldModel" 363 "TurtleWorldModel" "seedWas" "I" ∈ tw_T := tw_i8 139 (by decide +kernel) (by decide +kernel)
theorem lk_Model_369 : Cond.fieldLink "TurtleWorldModel" 369 "TurtleWorldModel" "toldWas" "I" ∈ tw_T := tw_i8 140 (by decide +kernel) (by decide +kernel)
theorem lk_Model_375 : Cond.fieldLink "TurtleWorldModel" 375 "TurtleWorldModel" "lettersWere" "I" ∈ tw_T := tw_i8 141 (by decide +kernel) (by decide +kernel)
theorem lk_Model_378 : Cond.fieldLink "TurtleWorldModel" 378 "TurtleWorldModel" "wordsWere" "I" ∈ tw_T := tw_i8 142 (by decide +kernel) (by decide +kernel)
theorem lk_Model_381 : Cond.fieldLink "TurtleWorldModel" 381 "TurtleWorldModel" "cellsWere" "I" ∈ tw_T := tw_i8 143 (by decide +kernel) (by decide +kernel)
theorem lk_Model_384 : Cond.fieldLink "TurtleWorldModel" 384 "TurtleWorldModel" "listsWere" "I" ∈ tw_T := tw_i8 144 (by decide +kernel) (by decide +kernel)
