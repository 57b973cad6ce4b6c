theorem d_Model_told_0 : decode b_Model_told 0 = .ok (.iconst 0, 1) := by decide +kernel
theorem d_Model_told_1 : decode b_Model_told 1 = .ok (.istore_n 2, 1) := by decide +kernel
theorem d_Model_told_2 : decode b_Model_told 2 = .ok (.iload_n 2, 1) := by decide +kernel
theorem d_Model_told_3 : decode b_Model_told 3 = .ok (.aload_n 1, 1) := by decide +kernel
theorem d_Model_told_4 : decode b_Model_told 4 = .ok (.invokevirtual 75, 3) := by decide +kernel
theorem d_Model_told_7 : decode b_Model_told 7 = .ok (.if_icmp .ge 26, 3) := by decide +kernel
theorem d_Model_told_10 : decode b_Model_told 10 = .ok (.aload_n 0, 1) := by decide +kernel
theorem d_Model_told_11 : decode b_Model_told 11 = .ok (.getfield 67, 3) := by decide +kernel
theorem d_Model_told_14 : decode b_Model_told 14 = .ok (.aload_n 0, 1) := by decide +kernel
theorem d_Model_told_15 : decode b_Model_told 15 = .ok (.getfield 372, 3) := by decide +kernel
theorem d_Model_told_18 : decode b_Model_told 18 = .ok (.iload_n 2, 1) := by decide +kernel
theorem d_Model_told_19 : decode b_Model_told 19 = .ok (.iadd, 1) := by decide +kernel
theorem d_Model_told_20 : decode b_Model_told 20 = .ok (.aload_n 1, 1) := by decide +kernel
theorem d_Model_told_21 : decode b_Model_told 21 = .ok (.iload_n 2, 1) := by decide +kernel
theorem d_Model_told_22 : decode b_Model_told 22 = .ok (.invokevirtual 81, 3) := by decide +kernel
theorem d_Model_told_25 : decode b_Model_told 25 = .ok (.i2b, 1) := by decide +kernel
theorem d_Model_told_26 : decode b_Model_told 26 = .ok (.bastore, 1) := by decide +kernel
theorem d_Model_told_27 : decode b_Model_told 27 = .ok (.iinc 2 1, 3) := by decide +kernel
theorem d_Model_told_30 : decode b_Model_told 30 = .ok (.goto (-28), 3) := by decide +kernel
theorem d_Model_told_33 : decode b_Model_told 33 = .ok (.aload_n 0, 1) := by decide +kernel
theorem d_Model_told_34 : decode b_Model_told 34 = .ok (.aload_n 0, 1) := by decide +kernel
theorem d_Model_told_35 : decode b_Model_told 35 = .ok (.getfield 372, 3) := by decide +kernel
theorem d_Model_told_38 : decode b_Model_told 38 = .ok (.aload_n 1, 1) := by decide +kernel
theorem d_Model_told_39 : decode b_Model_told 39 = .ok (.invokevirtual 75, 3) := by decide +kernel
theorem d_Model_told_42 : decode b_Model_told 42 = .ok (.invokevirtual 454, 3) := by decide +kernel
theorem d_Model_told_45 : decode b_Model_told 45 = .ok (.invokestatic 396, 3) := by decide +kernel
theorem d_Model_told_48 : decode b_Model_told 48 = .ok (.lstore_n 2, 1) := by decide +kernel
theorem d_Model_told_49 : decode b_Model_told 49 = .ok (.aload_n 0, 1) := by decide +kernel
theorem d_Model_told_50 : decode b_Model_told 50 = .ok (.dup, 1) := by decide +kernel
theorem d_Model_told_51 : decode b_Model_told 51 = .ok (.getfield 372, 3) := by decide +kernel
theorem d_Model_told_54 : decode b_Model_told 54 = .ok (.aload_n 1, 1) := by decide +kernel
theorem d_Model_told_55 : decode b_Model_told 55 = .ok (.invokevirtual 75, 3) := by decide +kernel
theorem d_Model_told_58 : decode b_Model_told 58 = .ok (.iadd, 1) := by decide +kernel
theorem d_Model_told_59 : decode b_Model_told 59 = .ok (.putfield 372, 3) := by decide +kernel
theorem d_Model_told_62 : decode b_Model_told 62 = .ok (.lload_n 2, 1) := by decide +kernel
theorem d_Model_told_63 : decode b_Model_told 63 = .ok (.lreturn, 1) := by decide +kernel
theorem lk_Model_75 : Cond.methodLink "TurtleWorldModel" 75 ⟨"java/lang/String", "length", "()I"⟩ ∈ tw_T := tw_i10 59 (by decide +kernel) (by decide +kernel)
theorem lk_Model_81 : Cond.methodLink "TurtleWorldModel" 81 ⟨"java/lang/String", "charAt", "(I)C"⟩ ∈ tw_T := tw_i10 60 (by decide +kernel) (by decide +kernel)
theorem lk_Model_454 : Cond.methodLink "TurtleWorldModel" 454 ⟨"TurtleWorldModel", "newWord", "(II)I"⟩ ∈ tw_T := tw_i10 34 (by decide +kernel) (by decide +kernel)
theorem in_Model_newWord : Cond.instanceMethod ⟨"TurtleWorldModel", "newWord", "(II)I"⟩ ∈ tw_T := tw_i10 36 (by decide +kernel) (by decide +kernel)
theorem sel_Model_newWord : Cond.selects "TurtleWorldModel" ⟨"TurtleWorldModel", "newWord", "(II)I"⟩ ⟨"TurtleWorldModel", "newWord", "(II)I"⟩ ∈ tw_T := tw_inS 93 (by decide +kernel) (by decide +kernel)
theorem lk_Model_396 : Cond.methodLink "TurtleWorldModel" 396 ⟨"TurtleWorldModel", "wordValue", "(I)J"⟩ ∈ tw_T := tw_i10 38 (by decide +kernel) (by decide +kernel)
theorem st_Model_wordValue : Cond.static ⟨"TurtleWorldModel", "wordValue", "(I)J"⟩ ∈ tw_T := tw_i10 39 (by decide +kernel) (by decide +kernel)
