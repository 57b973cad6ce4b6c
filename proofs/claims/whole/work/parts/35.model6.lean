theorem d_Model_sameWord_0 : decode b_Model_sameWord 0 = .ok (.aload_n 0, 1) := by decide +kernel
theorem d_Model_sameWord_1 : decode b_Model_sameWord 1 = .ok (.aload_n 0, 1) := by decide +kernel
theorem d_Model_sameWord_2 : decode b_Model_sameWord 2 = .ok (.getfield 15, 3) := by decide +kernel
theorem d_Model_sameWord_5 : decode b_Model_sameWord 5 = .ok (.iload_n 1, 1) := by decide +kernel
theorem d_Model_sameWord_6 : decode b_Model_sameWord 6 = .ok (.iaload, 1) := by decide +kernel
theorem d_Model_sameWord_7 : decode b_Model_sameWord 7 = .ok (.aload_n 0, 1) := by decide +kernel
theorem d_Model_sameWord_8 : decode b_Model_sameWord 8 = .ok (.getfield 22, 3) := by decide +kernel
theorem d_Model_sameWord_11 : decode b_Model_sameWord 11 = .ok (.iload_n 1, 1) := by decide +kernel
theorem d_Model_sameWord_12 : decode b_Model_sameWord 12 = .ok (.iaload, 1) := by decide +kernel
theorem d_Model_sameWord_13 : decode b_Model_sameWord 13 = .ok (.aload_n 0, 1) := by decide +kernel
theorem d_Model_sameWord_14 : decode b_Model_sameWord 14 = .ok (.getfield 15, 3) := by decide +kernel
theorem d_Model_sameWord_17 : decode b_Model_sameWord 17 = .ok (.iload_n 2, 1) := by decide +kernel
theorem d_Model_sameWord_18 : decode b_Model_sameWord 18 = .ok (.iaload, 1) := by decide +kernel
theorem d_Model_sameWord_19 : decode b_Model_sameWord 19 = .ok (.aload_n 0, 1) := by decide +kernel
theorem d_Model_sameWord_20 : decode b_Model_sameWord 20 = .ok (.getfield 22, 3) := by decide +kernel
theorem d_Model_sameWord_23 : decode b_Model_sameWord 23 = .ok (.iload_n 2, 1) := by decide +kernel
theorem d_Model_sameWord_24 : decode b_Model_sameWord 24 = .ok (.iaload, 1) := by decide +kernel
theorem d_Model_sameWord_25 : decode b_Model_sameWord 25 = .ok (.invokevirtual 71, 3) := by decide +kernel
theorem d_Model_sameWord_28 : decode b_Model_sameWord 28 = .ok (.ireturn, 1) := by decide +kernel
theorem lk_Model_71 : Cond.methodLink "TurtleWorldModel" 71 ⟨"TurtleWorldModel", "sameLetters", "(IIII)Z"⟩ ∈ tw_T := tw_i10 79 (by decide +kernel) (by decide +kernel)
theorem in_Model_sameLetters : Cond.instanceMethod ⟨"TurtleWorldModel", "sameLetters", "(IIII)Z"⟩ ∈ tw_T := tw_i10 81 (by decide +kernel) (by decide +kernel)
theorem sel_Model_sameLetters : Cond.selects "TurtleWorldModel" ⟨"TurtleWorldModel", "sameLetters", "(IIII)Z"⟩ ⟨"TurtleWorldModel", "sameLetters", "(IIII)Z"⟩ ∈ tw_T := tw_inS 100 (by decide +kernel) (by decide +kernel)
theorem d_Model_procedureOf_0 : decode b_Model_procedureOf 0 = .ok (.iconst 0, 1) := by decide +kernel
theorem d_Model_procedureOf_1 : decode b_Model_procedureOf 1 = .ok (.istore_n 2, 1) := by decide +kernel
theorem d_Model_procedureOf_2 : decode b_Model_procedureOf 2 = .ok (.iload_n 2, 1) := by decide +kernel
theorem d_Model_procedureOf_3 : decode b_Model_procedureOf 3 = .ok (.aload_n 0, 1) := by decide +kernel
theorem d_Model_procedureOf_4 : decode b_Model_procedureOf 4 = .ok (.getfield 344, 3) := by decide +kernel
theorem d_Model_procedureOf_7 : decode b_Model_procedureOf 7 = .ok (.if_icmp .ge 25, 3) := by decide +kernel
theorem d_Model_procedureOf_10 : decode b_Model_procedureOf 10 = .ok (.aload_n 0, 1) := by decide +kernel
theorem d_Model_procedureOf_11 : decode b_Model_procedureOf 11 = .ok (.aload_n 0, 1) := by decide +kernel
theorem d_Model_procedureOf_12 : decode b_Model_procedureOf 12 = .ok (.getfield 183, 3) := by decide +kernel
theorem d_Model_procedureOf_15 : decode b_Model_procedureOf 15 = .ok (.iload_n 2, 1) := by decide +kernel
theorem d_Model_procedureOf_16 : decode b_Model_procedureOf 16 = .ok (.iaload, 1) := by decide +kernel
theorem d_Model_procedureOf_17 : decode b_Model_procedureOf 17 = .ok (.iload_n 1, 1) := by decide +kernel
theorem d_Model_procedureOf_18 : decode b_Model_procedureOf 18 = .ok (.invokevirtual 91, 3) := by decide +kernel
theorem d_Model_procedureOf_21 : decode b_Model_procedureOf 21 = .ok (.ifCond .eq 5, 3) := by decide +kernel
theorem d_Model_procedureOf_24 : decode b_Model_procedureOf 24 = .ok (.iload_n 2, 1) := by decide +kernel
theorem d_Model_procedureOf_25 : decode b_Model_procedureOf 25 = .ok (.ireturn, 1) := by decide +kernel
theorem d_Model_procedureOf_26 : decode b_Model_procedureOf 26 = .ok (.iinc 2 1, 3) := by decide +kernel
theorem d_Model_procedureOf_29 : decode b_Model_procedureOf 29 = .ok (.goto (-27), 3) := by decide +kernel
theorem d_Model_procedureOf_32 : decode b_Model_procedureOf 32 = .ok (.iconst (-1), 1) := by decide +kernel
theorem d_Model_procedureOf_33 : decode b_Model_procedureOf 33 = .ok (.ireturn, 1) := by decide +kernel
theorem lk_Model_183 : Cond.fieldLink "TurtleWorldModel" 183 "TurtleWorldModel" "procName" "[I" ∈ tw_T := tw_i8 107 (by decide +kernel) (by decide +kernel)
theorem lk_Model_91 : Cond.methodLink "TurtleWorldModel" 91 ⟨"TurtleWorldModel", "sameWord", "(II)Z"⟩ ∈ tw_T := tw_i10 75 (by decide +kernel) (by decide +kernel)
theorem in_Model_sameWord : Cond.instanceMethod ⟨"TurtleWorldModel", "sameWord", "(II)Z"⟩ ∈ tw_T := tw_i10 77 (by decide +kernel) (by decide +kernel)
theorem sel_Model_sameWord : Cond.selects "TurtleWorldModel" ⟨"TurtleWorldModel", "sameWord", "(II)Z"⟩ ⟨"TurtleWorldModel", "sameWord", "(II)Z"⟩ ∈ tw_T := tw_inS 99 (by decide +kernel) (by decide +kernel)
