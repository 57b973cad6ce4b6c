theorem d_World_line_0 : decode b_World_line 0 = .ok (.aload_n 0, 1) := by decide +kernel
theorem d_World_line_1 : decode b_World_line 1 = .ok (.getfield 63, 3) := by decide +kernel
theorem d_World_line_4 : decode b_World_line 4 = .ok (.getfield 100, 3) := by decide +kernel
theorem d_World_line_7 : decode b_World_line 7 = .ok (.iconst 1, 1) := by decide +kernel
theorem d_World_line_8 : decode b_World_line 8 = .ok (.if_icmp .ne 6, 3) := by decide +kernel
theorem d_World_line_11 : decode b_World_line 11 = .ok (.bipush (-20), 2) := by decide +kernel
theorem d_World_line_13 : decode b_World_line 13 = .ok (.ireturn, 1) := by decide +kernel
theorem d_World_line_14 : decode b_World_line 14 = .ok (.aload_n 0, 1) := by decide +kernel
theorem d_World_line_15 : decode b_World_line 15 = .ok (.getfield 56, 3) := by decide +kernel
theorem d_World_line_18 : decode b_World_line 18 = .ok (.iconst 0, 1) := by decide +kernel
theorem d_World_line_19 : decode b_World_line 19 = .ok (.invokevirtual 104, 3) := by decide +kernel
theorem d_World_line_22 : decode b_World_line 22 = .ok (.ifCond .ne 12, 3) := by decide +kernel
theorem d_World_line_25 : decode b_World_line 25 = .ok (.aload_n 0, 1) := by decide +kernel
theorem d_World_line_26 : decode b_World_line 26 = .ok (.getfield 56, 3) := by decide +kernel
theorem d_World_line_29 : decode b_World_line 29 = .ok (.getfield 108, 3) := by decide +kernel
theorem d_World_line_32 : decode b_World_line 32 = .ok (.ineg, 1) := by decide +kernel
theorem d_World_line_33 : decode b_World_line 33 = .ok (.ireturn, 1) := by decide +kernel
theorem d_World_line_34 : decode b_World_line 34 = .ok (.aload_n 0, 1) := by decide +kernel
theorem d_World_line_35 : decode b_World_line 35 = .ok (.invokevirtual 119, 3) := by decide +kernel
theorem d_World_line_38 : decode b_World_line 38 = .ok (.aload_n 0, 1) := by decide +kernel
theorem d_World_line_39 : decode b_World_line 39 = .ok (.invokevirtual 122, 3) := by decide +kernel
theorem d_World_line_42 : decode b_World_line 42 = .ok (.aload_n 0, 1) := by decide +kernel
theorem d_World_line_43 : decode b_World_line 43 = .ok (.getfield 84, 3) := by decide +kernel
theorem d_World_line_46 : decode b_World_line 46 = .ok (.aload_n 0, 1) := by decide +kernel
theorem d_World_line_47 : decode b_World_line 47 = .ok (.getfield 125, 3) := by decide +kernel
theorem d_World_line_50 : decode b_World_line 50 = .ok (.invokevirtual 128, 3) := by decide +kernel
theorem d_World_line_53 : decode b_World_line 53 = .ok (.aload_n 0, 1) := by decide +kernel
theorem d_World_line_54 : decode b_World_line 54 = .ok (.getfield 17, 3) := by decide +kernel
theorem d_World_line_57 : decode b_World_line 57 = .ok (.aload_n 0, 1) := by decide +kernel
theorem d_World_line_58 : decode b_World_line 58 = .ok (.getfield 125, 3) := by decide +kernel
theorem d_World_line_61 : decode b_World_line 61 = .ok (.invokevirtual 131, 3) := by decide +kernel
theorem d_World_line_64 : decode b_World_line 64 = .ok (.ireturn, 1) := by decide +kernel
theorem lk_World_119 : Cond.methodLink "TurtleWorld" 119 ⟨"TurtleWorld", "collect", "()V"⟩ ∈ tw_T := tw_i4 162 (by decide +kernel) (by decide +kernel)
theorem in_World_collect : Cond.instanceMethod ⟨"TurtleWorld", "collect", "()V"⟩ ∈ tw_T := tw_i4 164 (by decide +kernel) (by decide +kernel)
theorem sel_World_collect : Cond.selects "TurtleWorld" ⟨"TurtleWorld", "collect", "()V"⟩ ⟨"TurtleWorld", "collect", "()V"⟩ ∈ tw_T := tw_inS 25 (by decide +kernel) (by decide +kernel)
theorem ini_World : Cond.initialized "TurtleWorld" ∈ tw_T := tw_i1 1 (by decide +kernel) (by decide +kernel)
theorem lk_World_122 : Cond.methodLink "TurtleWorld" 122 ⟨"TurtleWorld", "keep", "()V"⟩ ∈ tw_T := tw_i4 216 (by decide +kernel) (by decide +kernel)
theorem in_World_keep : Cond.instanceMethod ⟨"TurtleWorld", "keep", "()V"⟩ ∈ tw_T := tw_i4 218 (by decide +kernel) (by decide +kernel)
theorem sel_World_keep : Cond.selects "TurtleWorld" ⟨"TurtleWorld", "keep", "()V"⟩ ⟨"TurtleWorld", "keep", "()V"⟩ ∈ tw_T := tw_inS 31 (by decide +kernel) (by decide +kernel)
theorem lk_World_128 : Cond.methodLink "TurtleWorld" 128 ⟨"TurtleWorld$Machine", "begin", "(I)V"⟩ ∈ tw_T := tw_i5 0 (by decide +kernel) (by decide +kernel)
theorem in_Machine_begin : Cond.instanceMethod ⟨"TurtleWorld$Machine", "begin", "(I)V"⟩ ∈ tw_T := tw_i5 1 (by decide +kernel) (by decide +kernel)
theorem sel_Machine_begin : Cond.selects "TurtleWorld$Machine" ⟨"TurtleWorld$Machine", "begin", "(I)V"⟩ ⟨"TurtleWorld$Machine", "begin", "(I)V"⟩ ∈ tw_T := tw_i5 2 (by decide +kernel) (by decide +kernel)
