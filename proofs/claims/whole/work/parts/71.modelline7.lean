theorem d_Model_line_0 : decode b_Model_line 0 = .ok (.aload_n 0, 1) := by decide +kernel
theorem d_Model_line_1 : decode b_Model_line 1 = .ok (.iconst 0, 1) := by decide +kernel
theorem d_Model_line_2 : decode b_Model_line 2 = .ok (.putfield 1, 3) := by decide +kernel
theorem d_Model_line_5 : decode b_Model_line 5 = .ok (.aload_n 0, 1) := by decide +kernel
theorem d_Model_line_6 : decode b_Model_line 6 = .ok (.getfield 494, 3) := by decide +kernel
theorem d_Model_line_9 : decode b_Model_line 9 = .ok (.iconst 1, 1) := by decide +kernel
theorem d_Model_line_10 : decode b_Model_line 10 = .ok (.if_icmp .ne 6, 3) := by decide +kernel
theorem d_Model_line_13 : decode b_Model_line 13 = .ok (.bipush (-20), 2) := by decide +kernel
theorem d_Model_line_15 : decode b_Model_line 15 = .ok (.ireturn, 1) := by decide +kernel
theorem d_Model_line_16 : decode b_Model_line 16 = .ok (.aload_n 0, 1) := by decide +kernel
theorem d_Model_line_17 : decode b_Model_line 17 = .ok (.getfield 372, 3) := by decide +kernel
theorem d_Model_line_20 : decode b_Model_line 20 = .ok (.istore_n 1, 1) := by decide +kernel
theorem d_Model_line_21 : decode b_Model_line 21 = .ok (.aload_n 0, 1) := by decide +kernel
theorem d_Model_line_22 : decode b_Model_line 22 = .ok (.getfield 19, 3) := by decide +kernel
theorem d_Model_line_25 : decode b_Model_line 25 = .ok (.istore_n 2, 1) := by decide +kernel
theorem d_Model_line_26 : decode b_Model_line 26 = .ok (.aload_n 0, 1) := by decide +kernel
theorem d_Model_line_27 : decode b_Model_line 27 = .ok (.iconst 0, 1) := by decide +kernel
theorem d_Model_line_28 : decode b_Model_line 28 = .ok (.invokevirtual 497, 3) := by decide +kernel
theorem d_Model_line_31 : decode b_Model_line 31 = .ok (.istore_n 3, 1) := by decide +kernel
theorem d_Model_line_32 : decode b_Model_line 32 = .ok (.aload_n 0, 1) := by decide +kernel
theorem d_Model_line_33 : decode b_Model_line 33 = .ok (.iconst 0, 1) := by decide +kernel
theorem d_Model_line_34 : decode b_Model_line 34 = .ok (.putfield 409, 3) := by decide +kernel
theorem d_Model_line_37 : decode b_Model_line 37 = .ok (.iload_n 3, 1) := by decide +kernel
theorem d_Model_line_38 : decode b_Model_line 38 = .ok (.ifCond .ne 19, 3) := by decide +kernel
theorem d_Model_line_41 : decode b_Model_line 41 = .ok (.aload_n 0, 1) := by decide +kernel
theorem d_Model_line_42 : decode b_Model_line 42 = .ok (.iload_n 1, 1) := by decide +kernel
theorem d_Model_line_43 : decode b_Model_line 43 = .ok (.putfield 372, 3) := by decide +kernel
theorem d_Model_line_46 : decode b_Model_line 46 = .ok (.aload_n 0, 1) := by decide +kernel
theorem d_Model_line_47 : decode b_Model_line 47 = .ok (.iload_n 2, 1) := by decide +kernel
theorem d_Model_line_48 : decode b_Model_line 48 = .ok (.putfield 19, 3) := by decide +kernel
theorem d_Model_line_51 : decode b_Model_line 51 = .ok (.aload_n 0, 1) := by decide +kernel
theorem d_Model_line_52 : decode b_Model_line 52 = .ok (.getfield 416, 3) := by decide +kernel
theorem d_Model_line_55 : decode b_Model_line 55 = .ok (.ineg, 1) := by decide +kernel
theorem d_Model_line_56 : decode b_Model_line 56 = .ok (.ireturn, 1) := by decide +kernel
theorem d_Model_line_57 : decode b_Model_line 57 = .ok (.aload_n 0, 1) := by decide +kernel
theorem d_Model_line_58 : decode b_Model_line 58 = .ok (.aload_n 0, 1) := by decide +kernel
theorem d_Model_line_59 : decode b_Model_line 59 = .ok (.aload_n 0, 1) := by decide +kernel
theorem d_Model_line_60 : decode b_Model_line 60 = .ok (.iconst 0, 1) := by decide +kernel
theorem d_Model_line_61 : decode b_Model_line 61 = .ok (.aload_n 0, 1) := by decide +kernel
theorem d_Model_line_62 : decode b_Model_line 62 = .ok (.getfield 425, 3) := by decide +kernel
theorem d_Model_line_65 : decode b_Model_line 65 = .ok (.invokevirtual 504, 3) := by decide +kernel
theorem d_Model_line_68 : decode b_Model_line 68 = .ok (.invokevirtual 511, 3) := by decide +kernel
theorem d_Model_line_71 : decode b_Model_line 71 = .ok (.putfield 514, 3) := by decide +kernel
theorem d_Model_line_74 : decode b_Model_line 74 = .ok (.aload_n 0, 1) := by decide +kernel
theorem d_Model_line_75 : decode b_Model_line 75 = .ok (.invokevirtual 517, 3) := by decide +kernel
theorem d_Model_line_78 : decode b_Model_line 78 = .ok (.aload_n 0, 1) := by decide +kernel
theorem d_Model_line_79 : decode b_Model_line 79 = .ok (.iconst 0, 1) := by decide +kernel
theorem d_Model_line_80 : decode b_Model_line 80 = .ok (.putfield 507, 3) := by decide +kernel
theorem d_Model_line_83 : decode b_Model_line 83 = .ok (.aload_n 0, 1) := by decide +kernel
theorem d_Model_line_84 : decode b_Model_line 84 = .ok (.aload_n 0, 1) := by decide +kernel
theorem d_Model_line_85 : decode b_Model_line 85 = .ok (.getfield 514, 3) := by decide +kernel
theorem d_Model_line_88 : decode b_Model_line 88 = .ok (.invokevirtual 98, 3) := by decide +kernel
theorem d_Model_line_91 : decode b_Model_line 91 = .ok (.istore 4, 2) := by decide +kernel
theorem d_Model_line_93 : decode b_Model_line 93 = .ok (.aload_n 0, 1) := by decide +kernel
theorem d_Model_line_94 : decode b_Model_line 94 = .ok (.lconst 0, 1) := by decide +kernel
theorem d_Model_line_95 : decode b_Model_line 95 = .ok (.invokevirtual 520, 3) := by decide +kernel
theorem d_Model_line_98 : decode b_Model_line 98 = .ok (.iload 4, 2) := by decide +kernel
theorem d_Model_line_100 : decode b_Model_line 100 = .ok (.ireturn, 1) := by decide +kernel
theorem lk_Model_504 : Cond.methodLink "TurtleWorldModel" 504 ⟨"TurtleWorldModel", "listOf", "(II)J"⟩ ∈ tw_T := tw_i10 91 (by decide +kernel) (by decide +kernel)
theorem in_Model_listOf : Cond.instanceMethod ⟨"TurtleWorldModel", "listOf", "(II)J"⟩ ∈ tw_T := tw_i10 93 (by decide +kernel) (by decide +kernel)
theorem sel_Model_listOf : Cond.selects "TurtleWorldModel" ⟨"TurtleWorldModel", "listOf", "(II)J"⟩ ⟨"TurtleWorldModel", "listOf", "(II)J"⟩ ∈ tw_T := tw_inS 103 (by decide +kernel) (by decide +kernel)
theorem lk_Model_511 : Cond.methodLink "TurtleWorldModel" 511 ⟨"TurtleWorldModel", "tidy", "(J)J"⟩ ∈ tw_T := tw_i10 118 (by decide +kernel) (by decide +kernel)
theorem in_Model_tidy : Cond.instanceMethod ⟨"TurtleWorldModel", "tidy", "(J)J"⟩ ∈ tw_T := tw_i10 120 (by decide +kernel) (by decide +kernel)
theorem sel_Model_tidy : Cond.selects "TurtleWorldModel" ⟨"TurtleWorldModel", "tidy", "(J)J"⟩ ⟨"TurtleWorldModel", "tidy", "(J)J"⟩ ∈ tw_T := tw_inS 108 (by decide +kernel) (by decide +kernel)
theorem lk_Model_517 : Cond.methodLink "TurtleWorldModel" 517 ⟨"TurtleWorldModel", "keep", "()V"⟩ ∈ tw_T := tw_i10 134 (by decide +kernel) (by decide +kernel)
theorem in_Model_keep : Cond.instanceMethod ⟨"TurtleWorldModel", "keep", "()V"⟩ ∈ tw_T := tw_i10 136 (by decide +kernel) (by decide +kernel)
theorem sel_Model_keep : Cond.selects "TurtleWorldModel" ⟨"TurtleWorldModel", "keep", "()V"⟩ ⟨"TurtleWorldModel", "keep", "()V"⟩ ∈ tw_T := tw_inS 111 (by decide +kernel) (by decide +kernel)
theorem lk_Model_507 : Cond.fieldLink "TurtleWorldModel" 507 "TurtleWorldModel" "isLost" "Z" ∈ tw_T := tw_i8 178 (by decide +kernel) (by decide +kernel)
theorem lk_Model_98 : Cond.methodLink "TurtleWorldModel" 98 ⟨"TurtleWorldModel", "size", "(J)I"⟩ ∈ tw_T := tw_i10 142 (by decide +kernel) (by decide +kernel)
theorem in_Model_size : Cond.instanceMethod ⟨"TurtleWorldModel", "size", "(J)I"⟩ ∈ tw_T := tw_i10 144 (by decide +kernel) (by decide +kernel)
theorem sel_Model_size : Cond.selects "TurtleWorldModel" ⟨"TurtleWorldModel", "size", "(J)I"⟩ ⟨"TurtleWorldModel", "size", "(J)I"⟩ ∈ tw_T := tw_inS 113 (by decide +kernel) (by decide +kernel)
theorem lk_Model_520 : Cond.methodLink "TurtleWorldModel" 520 ⟨"TurtleWorldModel", "execute", "(J)V"⟩ ∈ tw_T := tw_i10 146 (by decide +kernel) (by decide +kernel)
theorem in_Model_execute : Cond.instanceMethod ⟨"TurtleWorldModel", "execute", "(J)V"⟩ ∈ tw_T := tw_i10 148 (by decide +kernel) (by decide +kernel)
theorem sel_Model_execute : Cond.selects "TurtleWorldModel" ⟨"TurtleWorldModel", "execute", "(J)V"⟩ ⟨"TurtleWorldModel", "execute", "(J)V"⟩ ∈ tw_T := tw_inS 114 (by decide +kernel) (by decide +kernel)
