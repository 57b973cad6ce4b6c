theorem d_Model_execute_0 : decode b_Model_execute 0 = .ok (.aload_n 0, 1) := by decide +kernel
theorem d_Model_execute_1 : decode b_Model_execute 1 = .ok (.lload_n 1, 1) := by decide +kernel
theorem d_Model_execute_2 : decode b_Model_execute 2 = .ok (.putfield 547, 3) := by decide +kernel
theorem d_Model_execute_5 : decode b_Model_execute 5 = .ok (.aload_n 0, 1) := by decide +kernel
theorem d_Model_execute_6 : decode b_Model_execute 6 = .ok (.iconst 0, 1) := by decide +kernel
theorem d_Model_execute_7 : decode b_Model_execute 7 = .ok (.putfield 523, 3) := by decide +kernel
theorem d_Model_execute_10 : decode b_Model_execute 10 = .ok (.aload_n 0, 1) := by decide +kernel
theorem d_Model_execute_11 : decode b_Model_execute 11 = .ok (.iconst 0, 1) := by decide +kernel
theorem d_Model_execute_12 : decode b_Model_execute 12 = .ok (.putfield 550, 3) := by decide +kernel
theorem d_Model_execute_15 : decode b_Model_execute 15 = .ok (.aload_n 0, 1) := by decide +kernel
theorem d_Model_execute_16 : decode b_Model_execute 16 = .ok (.iconst 0, 1) := by decide +kernel
theorem d_Model_execute_17 : decode b_Model_execute 17 = .ok (.putfield 553, 3) := by decide +kernel
theorem d_Model_execute_20 : decode b_Model_execute 20 = .ok (.aload_n 0, 1) := by decide +kernel
theorem d_Model_execute_21 : decode b_Model_execute 21 = .ok (.iconst 0, 1) := by decide +kernel
theorem d_Model_execute_22 : decode b_Model_execute 22 = .ok (.putfield 556, 3) := by decide +kernel
theorem d_Model_execute_25 : decode b_Model_execute 25 = .ok (.aload_n 0, 1) := by decide +kernel
theorem d_Model_execute_26 : decode b_Model_execute 26 = .ok (.iconst 1, 1) := by decide +kernel
theorem d_Model_execute_27 : decode b_Model_execute 27 = .ok (.putfield 532, 3) := by decide +kernel
theorem d_Model_execute_30 : decode b_Model_execute 30 = .ok (.aload_n 0, 1) := by decide +kernel
theorem d_Model_execute_31 : decode b_Model_execute 31 = .ok (.iconst 0, 1) := by decide +kernel
theorem d_Model_execute_32 : decode b_Model_execute 32 = .ok (.putfield 535, 3) := by decide +kernel
theorem d_Model_execute_35 : decode b_Model_execute 35 = .ok (.aload_n 0, 1) := by decide +kernel
theorem d_Model_execute_36 : decode b_Model_execute 36 = .ok (.iconst 0, 1) := by decide +kernel
theorem d_Model_execute_37 : decode b_Model_execute 37 = .ok (.putfield 538, 3) := by decide +kernel
theorem d_Model_execute_40 : decode b_Model_execute 40 = .ok (.aload_n 0, 1) := by decide +kernel
theorem d_Model_execute_41 : decode b_Model_execute 41 = .ok (.iconst 0, 1) := by decide +kernel
theorem d_Model_execute_42 : decode b_Model_execute 42 = .ok (.putfield 559, 3) := by decide +kernel
theorem d_Model_execute_45 : decode b_Model_execute 45 = .ok (.aload_n 0, 1) := by decide +kernel
theorem d_Model_execute_46 : decode b_Model_execute 46 = .ok (.iconst 0, 1) := by decide +kernel
theorem d_Model_execute_47 : decode b_Model_execute 47 = .ok (.putfield 541, 3) := by decide +kernel
theorem d_Model_execute_50 : decode b_Model_execute 50 = .ok (.aload_n 0, 1) := by decide +kernel
theorem d_Model_execute_51 : decode b_Model_execute 51 = .ok (.iconst 0, 1) := by decide +kernel
theorem d_Model_execute_52 : decode b_Model_execute 52 = .ok (.putfield 562, 3) := by decide +kernel
theorem d_Model_execute_55 : decode b_Model_execute 55 = .ok (.aload_n 0, 1) := by decide +kernel
theorem d_Model_execute_56 : decode b_Model_execute 56 = .ok (.iconst 0, 1) := by decide +kernel
theorem d_Model_execute_57 : decode b_Model_execute 57 = .ok (.putfield 565, 3) := by decide +kernel
theorem d_Model_execute_60 : decode b_Model_execute 60 = .ok (.aload_n 0, 1) := by decide +kernel
theorem d_Model_execute_61 : decode b_Model_execute 61 = .ok (.iconst 0, 1) := by decide +kernel
theorem d_Model_execute_62 : decode b_Model_execute 62 = .ok (.putfield 568, 3) := by decide +kernel
theorem d_Model_execute_65 : decode b_Model_execute 65 = .ok (.aload_n 0, 1) := by decide +kernel
theorem d_Model_execute_66 : decode b_Model_execute 66 = .ok (.iconst 0, 1) := by decide +kernel
theorem d_Model_execute_67 : decode b_Model_execute 67 = .ok (.putfield 571, 3) := by decide +kernel
theorem d_Model_execute_70 : decode b_Model_execute 70 = .ok (.aload_n 0, 1) := by decide +kernel
theorem d_Model_execute_71 : decode b_Model_execute 71 = .ok (.iconst 1, 1) := by decide +kernel
theorem d_Model_execute_72 : decode b_Model_execute 72 = .ok (.putfield 494, 3) := by decide +kernel
theorem d_Model_execute_75 : decode b_Model_execute 75 = .ok (.aload_n 0, 1) := by decide +kernel
theorem d_Model_execute_76 : decode b_Model_execute 76 = .ok (.aload_n 0, 1) := by decide +kernel
theorem d_Model_execute_77 : decode b_Model_execute 77 = .ok (.ldc_w 574, 3) := by decide +kernel
theorem d_Model_execute_80 : decode b_Model_execute 80 = .ok (.invokevirtual 576, 3) := by decide +kernel
theorem d_Model_execute_83 : decode b_Model_execute 83 = .ok (.putfield 579, 3) := by decide +kernel
theorem d_Model_execute_86 : decode b_Model_execute 86 = .ok (.aload_n 0, 1) := by decide +kernel
theorem d_Model_execute_87 : decode b_Model_execute 87 = .ok (.aload_n 0, 1) := by decide +kernel
theorem d_Model_execute_88 : decode b_Model_execute 88 = .ok (.ldc_w 582, 3) := by decide +kernel
theorem d_Model_execute_91 : decode b_Model_execute 91 = .ok (.invokevirtual 576, 3) := by decide +kernel
theorem d_Model_execute_94 : decode b_Model_execute 94 = .ok (.putfield 584, 3) := by decide +kernel
theorem d_Model_execute_97 : decode b_Model_execute 97 = .ok (.aload_n 0, 1) := by decide +kernel
theorem d_Model_execute_98 : decode b_Model_execute 98 = .ok (.aload_n 0, 1) := by decide +kernel
theorem d_Model_execute_99 : decode b_Model_execute 99 = .ok (.getfield 514, 3) := by decide +kernel
theorem d_Model_execute_102 : decode b_Model_execute 102 = .ok (.invokestatic 64, 3) := by decide +kernel
theorem d_Model_execute_105 : decode b_Model_execute 105 = .ok (.putfield 587, 3) := by decide +kernel
theorem d_Model_execute_108 : decode b_Model_execute 108 = .ok (.aload_n 0, 1) := by decide +kernel
theorem d_Model_execute_109 : decode b_Model_execute 109 = .ok (.iconst 0, 1) := by decide +kernel
theorem d_Model_execute_110 : decode b_Model_execute 110 = .ok (.putfield 590, 3) := by decide +kernel
theorem d_Model_execute_113 : decode b_Model_execute 113 = .ok (.aload_n 0, 1) := by decide +kernel
theorem d_Model_execute_114 : decode b_Model_execute 114 = .ok (.getfield 559, 3) := by decide +kernel
theorem d_Model_execute_117 : decode b_Model_execute 117 = .ok (.ifCond .ne 49, 3) := by decide +kernel
theorem d_Model_execute_120 : decode b_Model_execute 120 = .ok (.aload_n 0, 1) := by decide +kernel
theorem d_Model_execute_121 : decode b_Model_execute 121 = .ok (.getfield 590, 3) := by decide +kernel
theorem d_Model_execute_124 : decode b_Model_execute 124 = .ok (.aload_n 0, 1) := by decide +kernel
theorem d_Model_execute_125 : decode b_Model_execute 125 = .ok (.getfield 47, 3) := by decide +kernel
theorem d_Model_execute_128 : decode b_Model_execute 128 = .ok (.aload_n 0, 1) := by decide +kernel
theorem d_Model_execute_129 : decode b_Model_execute 129 = .ok (.getfield 587, 3) := by decide +kernel
theorem d_Model_execute_132 : decode b_Model_execute 132 = .ok (.iaload, 1) := by decide +kernel
theorem d_Model_execute_133 : decode b_Model_execute 133 = .ok (.if_icmp .ge 33, 3) := by decide +kernel
theorem d_Model_execute_136 : decode b_Model_execute 136 = .ok (.aload_n 0, 1) := by decide +kernel
theorem d_Model_execute_137 : decode b_Model_execute 137 = .ok (.iconst 0, 1) := by decide +kernel
theorem d_Model_execute_138 : decode b_Model_execute 138 = .ok (.invokevirtual 593, 3) := by decide +kernel
theorem d_Model_execute_141 : decode b_Model_execute 141 = .ok (.lstore_n 3, 1) := by decide +kernel
theorem d_Model_execute_142 : decode b_Model_execute 142 = .ok (.aload_n 0, 1) := by decide +kernel
theorem d_Model_execute_143 : decode b_Model_execute 143 = .ok (.getfield 559, 3) := by decide +kernel
theorem d_Model_execute_146 : decode b_Model_execute 146 = .ok (.ifCond .ne 17, 3) := by decide +kernel
theorem d_Model_execute_149 : decode b_Model_execute 149 = .ok (.lload_n 3, 1) := by decide +kernel
theorem d_Model_execute_150 : decode b_Model_execute 150 = .ok (.ldc2_w 7, 3) := by decide +kernel
theorem d_Model_execute_153 : decode b_Model_execute 153 = .ok (.lcmp, 1) := by decide +kernel
theorem d_Model_execute_154 : decode b_Model_execute 154 = .ok (.ifCond .eq 9, 3) := by decide +kernel
theorem d_Model_execute_157 : decode b_Model_execute 157 = .ok (.aload_n 0, 1) := by decide +kernel
theorem d_Model_execute_158 : decode b_Model_execute 158 = .ok (.iconst 5, 1) := by decide +kernel
theorem d_Model_execute_159 : decode b_Model_execute 159 = .ok (.invokevirtual 596, 3) := by decide +kernel
theorem d_Model_execute_162 : decode b_Model_execute 162 = .ok (.pop2, 1) := by decide +kernel
theorem d_Model_execute_163 : decode b_Model_execute 163 = .ok (.goto (-50), 3) := by decide +kernel
theorem d_Model_execute_166 : decode b_Model_execute 166 = .ok (.aload_n 0, 1) := by decide +kernel
theorem d_Model_execute_167 : decode b_Model_execute 167 = .ok (.getfield 559, 3) := by decide +kernel
theorem d_Model_execute_170 : decode b_Model_execute 170 = .ok (.iconst 1, 1) := by decide +kernel
theorem d_Model_execute_171 : decode b_Model_execute 171 = .ok (.if_icmp .ne 4, 3) := by decide +kernel
theorem d_Model_execute_174 : decode b_Model_execute 174 = .ok (.return_, 1) := by decide +kernel
theorem d_Model_execute_175 : decode b_Model_execute 175 = .ok (.aload_n 0, 1) := by decide +kernel
theorem d_Model_execute_176 : decode b_Model_execute 176 = .ok (.aload_n 0, 1) := by decide +kernel
theorem d_Model_execute_177 : decode b_Model_execute 177 = .ok (.getfield 559, 3) := by decide +kernel
theorem d_Model_execute_180 : decode b_Model_execute 180 = .ok (.iconst 2, 1) := by decide +kernel
theorem d_Model_execute_181 : decode b_Model_execute 181 = .ok (.if_icmp .eq 12, 3) := by decide +kernel
theorem d_Model_execute_184 : decode b_Model_execute 184 = .ok (.aload_n 0, 1) := by decide +kernel
theorem d_Model_execute_185 : decode b_Model_execute 185 = .ok (.getfield 559, 3) := by decide +kernel
theorem d_Model_execute_188 : decode b_Model_execute 188 = .ok (.bipush 6, 2) := by decide +kernel
theorem d_Model_execute_190 : decode b_Model_execute 190 = .ok (.if_icmp .ne 7, 3) := by decide +kernel
theorem d_Model_execute_193 : decode b_Model_execute 193 = .ok (.iconst 3, 1) := by decide +kernel
theorem d_Model_execute_194 : decode b_Model_execute 194 = .ok (.goto 4, 3) := by decide +kernel
theorem d_Model_execute_197 : decode b_Model_execute 197 = .ok (.iconst 2, 1) := by decide +kernel
theorem d_Model_execute_198 : decode b_Model_execute 198 = .ok (.putfield 494, 3) := by decide +kernel
theorem d_Model_execute_201 : decode b_Model_execute 201 = .ok (.aload_n 0, 1) := by decide +kernel
theorem d_Model_execute_202 : decode b_Model_execute 202 = .ok (.aload_n 0, 1) := by decide +kernel
theorem d_Model_execute_203 : decode b_Model_execute 203 = .ok (.getfield 559, 3) := by decide +kernel
theorem d_Model_execute_206 : decode b_Model_execute 206 = .ok (.iconst 2, 1) := by decide +kernel
theorem d_Model_execute_207 : decode b_Model_execute 207 = .ok (.if_icmp .eq 12, 3) := by decide +kernel
theorem d_Model_execute_210 : decode b_Model_execute 210 = .ok (.aload_n 0, 1) := by decide +kernel
theorem d_Model_execute_211 : decode b_Model_execute 211 = .ok (.getfield 559, 3) := by decide +kernel
theorem d_Model_execute_214 : decode b_Model_execute 214 = .ok (.bipush 6, 2) := by decide +kernel
theorem d_Model_execute_216 : decode b_Model_execute 216 = .ok (.if_icmp .ne 10, 3) := by decide +kernel
theorem d_Model_execute_219 : decode b_Model_execute 219 = .ok (.aload_n 0, 1) := by decide +kernel
theorem d_Model_execute_220 : decode b_Model_execute 220 = .ok (.getfield 599, 3) := by decide +kernel
theorem d_Model_execute_223 : decode b_Model_execute 223 = .ok (.goto 4, 3) := by decide +kernel
theorem d_Model_execute_226 : decode b_Model_execute 226 = .ok (.iconst 0, 1) := by decide +kernel
theorem d_Model_execute_227 : decode b_Model_execute 227 = .ok (.putfield 550, 3) := by decide +kernel
theorem d_Model_execute_230 : decode b_Model_execute 230 = .ok (.aload_n 0, 1) := by decide +kernel
theorem d_Model_execute_231 : decode b_Model_execute 231 = .ok (.invokevirtual 529, 3) := by decide +kernel
theorem d_Model_execute_234 : decode b_Model_execute 234 = .ok (.return_, 1) := by decide +kernel
theorem lk_Model_562 : Cond.fieldLink "TurtleWorldModel" 562 "TurtleWorldModel" "tops" "I" ∈ tw_T := tw_i8 185 (by decide +kernel) (by decide +kernel)
theorem lk_Model_565 : Cond.fieldLink "TurtleWorldModel" 565 "TurtleWorldModel" "repeats" "I" ∈ tw_T := tw_i8 194 (by decide +kernel) (by decide +kernel)
theorem lk_Model_568 : Cond.fieldLink "TurtleWorldModel" 568 "TurtleWorldModel" "members" "I" ∈ tw_T := tw_i8 195 (by decide +kernel) (by decide +kernel)
theorem lk_Model_571 : Cond.fieldLink "TurtleWorldModel" 571 "TurtleWorldModel" "catches" "I" ∈ tw_T := tw_i8 196 (by decide +kernel) (by decide +kernel)
theorem lk_Model_576 : Cond.methodLink "TurtleWorldModel" 576 ⟨"TurtleWorldModel", "told", "(Ljava/lang/String;)J"⟩ ∈ tw_T := tw_i10 151 (by decide +kernel) (by decide +kernel)
theorem in_Model_told : Cond.instanceMethod ⟨"TurtleWorldModel", "told", "(Ljava/lang/String;)J"⟩ ∈ tw_T := tw_i10 153 (by decide +kernel) (by decide +kernel)
theorem sel_Model_told : Cond.selects "TurtleWorldModel" ⟨"TurtleWorldModel", "told", "(Ljava/lang/String;)J"⟩ ⟨"TurtleWorldModel", "told", "(Ljava/lang/String;)J"⟩ ∈ tw_T := tw_inS 115 (by decide +kernel) (by decide +kernel)
theorem lk_Model_579 : Cond.fieldLink "TurtleWorldModel" 579 "TurtleWorldModel" "yes" "J" ∈ tw_T := tw_i8 202 (by decide +kernel) (by decide +kernel)
theorem lk_Model_584 : Cond.fieldLink "TurtleWorldModel" 584 "TurtleWorldModel" "no" "J" ∈ tw_T := tw_i8 203 (by decide +kernel) (by decide +kernel)
theorem lk_Model_514 : Cond.fieldLink "TurtleWorldModel" 514 "TurtleWorldModel" "line" "J" ∈ tw_T := tw_i8 179 (by decide +kernel) (by decide +kernel)
theorem lk_Model_587 : Cond.fieldLink "TurtleWorldModel" 587 "TurtleWorldModel" "list" "I" ∈ tw_T := tw_i8 183 (by decide +kernel) (by decide +kernel)
theorem lk_Model_590 : Cond.fieldLink "TurtleWorldModel" 590 "TurtleWorldModel" "at" "I" ∈ tw_T := tw_i8 184 (by decide +kernel) (by decide +kernel)
