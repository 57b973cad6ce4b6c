theorem d_Machine_begin_0 : decode b_Machine_begin 0 = .ok (.aload_n 0, 1) := by decide +kernel
theorem d_Machine_begin_1 : decode b_Machine_begin 1 = .ok (.getfield 18, 3) := by decide +kernel
theorem d_Machine_begin_4 : decode b_Machine_begin 4 = .ok (.invokevirtual 48, 3) := by decide +kernel
theorem d_Machine_begin_7 : decode b_Machine_begin 7 = .ok (.aload_n 0, 1) := by decide +kernel
theorem d_Machine_begin_8 : decode b_Machine_begin 8 = .ok (.getfield 22, 3) := by decide +kernel
theorem d_Machine_begin_11 : decode b_Machine_begin 11 = .ok (.invokevirtual 51, 3) := by decide +kernel
theorem d_Machine_begin_14 : decode b_Machine_begin 14 = .ok (.aload_n 0, 1) := by decide +kernel
theorem d_Machine_begin_15 : decode b_Machine_begin 15 = .ok (.getfield 26, 3) := by decide +kernel
theorem d_Machine_begin_18 : decode b_Machine_begin 18 = .ok (.iconst 0, 1) := by decide +kernel
theorem d_Machine_begin_19 : decode b_Machine_begin 19 = .ok (.invokevirtual 52, 3) := by decide +kernel
theorem d_Machine_begin_22 : decode b_Machine_begin 22 = .ok (.aload_n 0, 1) := by decide +kernel
theorem d_Machine_begin_23 : decode b_Machine_begin 23 = .ok (.getfield 18, 3) := by decide +kernel
theorem d_Machine_begin_26 : decode b_Machine_begin 26 = .ok (.iconst 0, 1) := by decide +kernel
theorem d_Machine_begin_27 : decode b_Machine_begin 27 = .ok (.iload_n 1, 1) := by decide +kernel
theorem d_Machine_begin_28 : decode b_Machine_begin 28 = .ok (.aload_n 0, 1) := by decide +kernel
theorem d_Machine_begin_29 : decode b_Machine_begin 29 = .ok (.getfield 22, 3) := by decide +kernel
theorem d_Machine_begin_32 : decode b_Machine_begin 32 = .ok (.invokevirtual 58, 3) := by decide +kernel
theorem d_Machine_begin_35 : decode b_Machine_begin 35 = .ok (.pop, 1) := by decide +kernel
theorem d_Machine_begin_36 : decode b_Machine_begin 36 = .ok (.aload_n 0, 1) := by decide +kernel
theorem d_Machine_begin_37 : decode b_Machine_begin 37 = .ok (.iconst 0, 1) := by decide +kernel
theorem d_Machine_begin_38 : decode b_Machine_begin 38 = .ok (.putfield 62, 3) := by decide +kernel
theorem d_Machine_begin_41 : decode b_Machine_begin 41 = .ok (.aload_n 0, 1) := by decide +kernel
theorem d_Machine_begin_42 : decode b_Machine_begin 42 = .ok (.invokevirtual 65, 3) := by decide +kernel
theorem d_Machine_begin_45 : decode b_Machine_begin 45 = .ok (.return_, 1) := by decide +kernel
theorem lk_Machine_48 : Cond.methodLink "TurtleWorld$Machine" 48 ⟨"TurtleWorld$Line", "begin", "()V"⟩ ∈ tw_T := tw_i5 4 (by decide +kernel) (by decide +kernel)
theorem in_Line_begin : Cond.instanceMethod ⟨"TurtleWorld$Line", "begin", "()V"⟩ ∈ tw_T := tw_i5 5 (by decide +kernel) (by decide +kernel)
theorem sel_Line_begin : Cond.selects "TurtleWorld$Line" ⟨"TurtleWorld$Line", "begin", "()V"⟩ ⟨"TurtleWorld$Line", "begin", "()V"⟩ ∈ tw_T := tw_i5 6 (by decide +kernel) (by decide +kernel)
theorem lk_Machine_52 : Cond.methodLink "TurtleWorld$Machine" 52 ⟨"TurtleWorld$Names", "dropLocals", "(I)V"⟩ ∈ tw_T := tw_i5 12 (by decide +kernel) (by decide +kernel)
theorem in_Names_dropLocals : Cond.instanceMethod ⟨"TurtleWorld$Names", "dropLocals", "(I)V"⟩ ∈ tw_T := tw_i5 13 (by decide +kernel) (by decide +kernel)
theorem sel_Names_dropLocals : Cond.selects "TurtleWorld$Names" ⟨"TurtleWorld$Names", "dropLocals", "(I)V"⟩ ⟨"TurtleWorld$Names", "dropLocals", "(I)V"⟩ ∈ tw_T := tw_i5 14 (by decide +kernel) (by decide +kernel)
theorem lk_Machine_58 : Cond.methodLink "TurtleWorld$Machine" 58 ⟨"TurtleWorld$Line", "open", "(IILTurtleWorld$Waiting;)Z"⟩ ∈ tw_T := tw_i5 16 (by decide +kernel) (by decide +kernel)
theorem in_Line_open : Cond.instanceMethod ⟨"TurtleWorld$Line", "open", "(IILTurtleWorld$Waiting;)Z"⟩ ∈ tw_T := tw_i5 17 (by decide +kernel) (by decide +kernel)
theorem sel_Line_open : Cond.selects "TurtleWorld$Line" ⟨"TurtleWorld$Line", "open", "(IILTurtleWorld$Waiting;)Z"⟩ ⟨"TurtleWorld$Line", "open", "(IILTurtleWorld$Waiting;)Z"⟩ ∈ tw_T := tw_i5 18 (by decide +kernel) (by decide +kernel)
theorem lk_Machine_65 : Cond.methodLink "TurtleWorld$Machine" 65 ⟨"TurtleWorld$Machine", "advance", "()V"⟩ ∈ tw_T := tw_i5 21 (by decide +kernel) (by decide +kernel)
theorem in_Machine_advance : Cond.instanceMethod ⟨"TurtleWorld$Machine", "advance", "()V"⟩ ∈ tw_T := tw_i5 23 (by decide +kernel) (by decide +kernel)
theorem sel_Machine_advance : Cond.selects "TurtleWorld$Machine" ⟨"TurtleWorld$Machine", "advance", "()V"⟩ ⟨"TurtleWorld$Machine", "advance", "()V"⟩ ∈ tw_T := tw_inS 32 (by decide +kernel) (by decide +kernel)
