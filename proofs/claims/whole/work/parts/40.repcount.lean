theorem d_Machine_repcount_0 : decode b_Machine_repcount 0 = .ok (.aload_n 0, 1) := by decide +kernel
theorem d_Machine_repcount_1 : decode b_Machine_repcount 1 = .ok (.getfield 18, 3) := by decide +kernel
theorem d_Machine_repcount_4 : decode b_Machine_repcount 4 = .ok (.iconst 3, 1) := by decide +kernel
theorem d_Machine_repcount_5 : decode b_Machine_repcount 5 = .ok (.iconst 3, 1) := by decide +kernel
theorem d_Machine_repcount_6 : decode b_Machine_repcount 6 = .ok (.invokevirtual 386, 3) := by decide +kernel
theorem d_Machine_repcount_9 : decode b_Machine_repcount 9 = .ok (.istore_n 1, 1) := by decide +kernel
theorem d_Machine_repcount_10 : decode b_Machine_repcount 10 = .ok (.iload_n 1, 1) := by decide +kernel
theorem d_Machine_repcount_11 : decode b_Machine_repcount 11 = .ok (.ifCond .ge 7, 3) := by decide +kernel
theorem d_Machine_repcount_14 : decode b_Machine_repcount 14 = .ok (.iconst 0, 1) := by decide +kernel
theorem d_Machine_repcount_15 : decode b_Machine_repcount 15 = .ok (.goto 12, 3) := by decide +kernel
theorem d_Machine_repcount_18 : decode b_Machine_repcount 18 = .ok (.aload_n 0, 1) := by decide +kernel
theorem d_Machine_repcount_19 : decode b_Machine_repcount 19 = .ok (.getfield 18, 3) := by decide +kernel
theorem d_Machine_repcount_22 : decode b_Machine_repcount 22 = .ok (.getfield 255, 3) := by decide +kernel
theorem d_Machine_repcount_25 : decode b_Machine_repcount 25 = .ok (.iload_n 1, 1) := by decide +kernel
theorem d_Machine_repcount_26 : decode b_Machine_repcount 26 = .ok (.iaload, 1) := by decide +kernel
theorem d_Machine_repcount_27 : decode b_Machine_repcount 27 = .ok (.invokestatic 389, 3) := by decide +kernel
theorem d_Machine_repcount_30 : decode b_Machine_repcount 30 = .ok (.ireturn, 1) := by decide +kernel
theorem lk_Machine_386 : Cond.methodLink "TurtleWorld$Machine" 386 ⟨"TurtleWorld$Line", "newest", "(II)I"⟩ ∈ tw_T := tw_i7 75 (by decide +kernel) (by decide +kernel)
theorem in_Line_newest : Cond.instanceMethod ⟨"TurtleWorld$Line", "newest", "(II)I"⟩ ∈ tw_T := tw_i7 76 (by decide +kernel) (by decide +kernel)
theorem sel_Line_newest : Cond.selects "TurtleWorld$Line" ⟨"TurtleWorld$Line", "newest", "(II)I"⟩ ⟨"TurtleWorld$Line", "newest", "(II)I"⟩ ∈ tw_T := tw_i7 77 (by decide +kernel) (by decide +kernel)
theorem d_Machine_current_0 : decode b_Machine_current 0 = .ok (.aload_n 0, 1) := by decide +kernel
theorem d_Machine_current_1 : decode b_Machine_current 1 = .ok (.getfield 18, 3) := by decide +kernel
theorem d_Machine_current_4 : decode b_Machine_current 4 = .ok (.iconst 5, 1) := by decide +kernel
theorem d_Machine_current_5 : decode b_Machine_current 5 = .ok (.bipush 10, 2) := by decide +kernel
theorem d_Machine_current_7 : decode b_Machine_current 7 = .ok (.invokevirtual 386, 3) := by decide +kernel
theorem d_Machine_current_10 : decode b_Machine_current 10 = .ok (.istore_n 1, 1) := by decide +kernel
theorem d_Machine_current_11 : decode b_Machine_current 11 = .ok (.iload_n 1, 1) := by decide +kernel
theorem d_Machine_current_12 : decode b_Machine_current 12 = .ok (.ifCond .ge 8, 3) := by decide +kernel
theorem d_Machine_current_15 : decode b_Machine_current 15 = .ok (.ldc 208, 2) := by decide +kernel
theorem d_Machine_current_17 : decode b_Machine_current 17 = .ok (.goto 30, 3) := by decide +kernel
theorem d_Machine_current_20 : decode b_Machine_current 20 = .ok (.aload_n 0, 1) := by decide +kernel
theorem d_Machine_current_21 : decode b_Machine_current 21 = .ok (.getfield 15, 3) := by decide +kernel
theorem d_Machine_current_24 : decode b_Machine_current 24 = .ok (.aload_n 0, 1) := by decide +kernel
theorem d_Machine_current_25 : decode b_Machine_current 25 = .ok (.getfield 18, 3) := by decide +kernel
theorem d_Machine_current_28 : decode b_Machine_current 28 = .ok (.getfield 267, 3) := by decide +kernel
theorem d_Machine_current_31 : decode b_Machine_current 31 = .ok (.iload_n 1, 1) := by decide +kernel
theorem d_Machine_current_32 : decode b_Machine_current 32 = .ok (.iaload, 1) := by decide +kernel
theorem d_Machine_current_33 : decode b_Machine_current 33 = .ok (.aload_n 0, 1) := by decide +kernel
theorem d_Machine_current_34 : decode b_Machine_current 34 = .ok (.getfield 18, 3) := by decide +kernel
theorem d_Machine_current_37 : decode b_Machine_current 37 = .ok (.getfield 255, 3) := by decide +kernel
theorem d_Machine_current_40 : decode b_Machine_current 40 = .ok (.iload_n 1, 1) := by decide +kernel
theorem d_Machine_current_41 : decode b_Machine_current 41 = .ok (.iaload, 1) := by decide +kernel
theorem d_Machine_current_42 : decode b_Machine_current 42 = .ok (.iconst 1, 1) := by decide +kernel
theorem d_Machine_current_43 : decode b_Machine_current 43 = .ok (.isub, 1) := by decide +kernel
theorem d_Machine_current_44 : decode b_Machine_current 44 = .ok (.invokevirtual 167, 3) := by decide +kernel
theorem d_Machine_current_47 : decode b_Machine_current 47 = .ok (.ireturn, 1) := by decide +kernel
theorem lk_Machine_15 : Cond.fieldLink "TurtleWorld$Machine" 15 "TurtleWorld$Machine" "heap" "LTurtleWorld$Heap;" ∈ tw_T := tw_i3 166 (by decide +kernel) (by decide +kernel)
theorem lk_Machine_167 : Cond.methodLink "TurtleWorld$Machine" 167 ⟨"TurtleWorld$Heap", "member", "(II)I"⟩ ∈ tw_T := tw_i5 31 (by decide +kernel) (by decide +kernel)
theorem in_Heap_member : Cond.instanceMethod ⟨"TurtleWorld$Heap", "member", "(II)I"⟩ ∈ tw_T := tw_i5 32 (by decide +kernel) (by decide +kernel)
theorem sel_Heap_member : Cond.selects "TurtleWorld$Heap" ⟨"TurtleWorld$Heap", "member", "(II)I"⟩ ⟨"TurtleWorld$Heap", "member", "(II)I"⟩ ∈ tw_T := tw_i5 33 (by decide +kernel) (by decide +kernel)
theorem lk_Machine_208 : Cond.constant "TurtleWorld$Machine" 208 (-2147483647) ∈ tw_T := tw_i5 80 (by decide +kernel) (by decide +kernel)
