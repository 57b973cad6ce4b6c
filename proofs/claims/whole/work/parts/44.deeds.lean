theorem d_Deeds_item_0 : decode b_Deeds_item 0 = .ok (.iload_n 1, 1) := by decide +kernel
theorem d_Deeds_item_1 : decode b_Deeds_item 1 = .ok (.iconst 1, 1) := by decide +kernel
theorem d_Deeds_item_2 : decode b_Deeds_item 2 = .ok (.if_icmp .lt 29, 3) := by decide +kernel
theorem d_Deeds_item_5 : decode b_Deeds_item 5 = .ok (.iload_n 1, 1) := by decide +kernel
theorem d_Deeds_item_6 : decode b_Deeds_item 6 = .ok (.aload_n 0, 1) := by decide +kernel
theorem d_Deeds_item_7 : decode b_Deeds_item 7 = .ok (.getfield 15, 3) := by decide +kernel
theorem d_Deeds_item_10 : decode b_Deeds_item 10 = .ok (.iload_n 2, 1) := by decide +kernel
theorem d_Deeds_item_11 : decode b_Deeds_item 11 = .ok (.invokevirtual 173, 3) := by decide +kernel
theorem d_Deeds_item_14 : decode b_Deeds_item 14 = .ok (.if_icmp .gt 17, 3) := by decide +kernel
theorem d_Deeds_item_17 : decode b_Deeds_item 17 = .ok (.aload_n 0, 1) := by decide +kernel
theorem d_Deeds_item_18 : decode b_Deeds_item 18 = .ok (.getfield 15, 3) := by decide +kernel
theorem d_Deeds_item_21 : decode b_Deeds_item 21 = .ok (.iload_n 2, 1) := by decide +kernel
theorem d_Deeds_item_22 : decode b_Deeds_item 22 = .ok (.iload_n 1, 1) := by decide +kernel
theorem d_Deeds_item_23 : decode b_Deeds_item 23 = .ok (.iconst 1, 1) := by decide +kernel
theorem d_Deeds_item_24 : decode b_Deeds_item 24 = .ok (.isub, 1) := by decide +kernel
theorem d_Deeds_item_25 : decode b_Deeds_item 25 = .ok (.invokevirtual 196, 3) := by decide +kernel
theorem d_Deeds_item_28 : decode b_Deeds_item 28 = .ok (.goto 5, 3) := by decide +kernel
theorem d_Deeds_item_31 : decode b_Deeds_item 31 = .ok (.ldc 146, 2) := by decide +kernel
theorem d_Deeds_item_33 : decode b_Deeds_item 33 = .ok (.ireturn, 1) := by decide +kernel
theorem lk_Deeds_146 : Cond.constant "TurtleWorld$Deeds" 146 (-2147483645) ∈ tw_T := tw_i6 136 (by decide +kernel) (by decide +kernel)
theorem lk_Deeds_15 : Cond.fieldLink "TurtleWorld$Deeds" 15 "TurtleWorld$Deeds" "heap" "LTurtleWorld$Heap;" ∈ tw_T := tw_i3 134 (by decide +kernel) (by decide +kernel)
theorem lk_Deeds_173 : Cond.methodLink "TurtleWorld$Deeds" 173 ⟨"TurtleWorld$Heap", "count", "(I)I"⟩ ∈ tw_T := tw_i6 181 (by decide +kernel) (by decide +kernel)
theorem lk_Deeds_196 : Cond.methodLink "TurtleWorld$Deeds" 196 ⟨"TurtleWorld$Heap", "member", "(II)I"⟩ ∈ tw_T := tw_i6 186 (by decide +kernel) (by decide +kernel)
theorem d_Deeds_same_0 : decode b_Deeds_same 0 = .ok (.iload_n 1, 1) := by decide +kernel
theorem d_Deeds_same_1 : decode b_Deeds_same 1 = .ok (.invokestatic 143, 3) := by decide +kernel
theorem d_Deeds_same_4 : decode b_Deeds_same 4 = .ok (.ifCond .eq 10, 3) := by decide +kernel
theorem d_Deeds_same_7 : decode b_Deeds_same 7 = .ok (.iload_n 2, 1) := by decide +kernel
theorem d_Deeds_same_8 : decode b_Deeds_same 8 = .ok (.invokestatic 143, 3) := by decide +kernel
theorem d_Deeds_same_11 : decode b_Deeds_same 11 = .ok (.ifCond .ne 6, 3) := by decide +kernel
theorem d_Deeds_same_14 : decode b_Deeds_same 14 = .ok (.ldc 146, 2) := by decide +kernel
theorem d_Deeds_same_16 : decode b_Deeds_same 16 = .ok (.ireturn, 1) := by decide +kernel
theorem d_Deeds_same_17 : decode b_Deeds_same 17 = .ok (.aload_n 0, 1) := by decide +kernel
theorem d_Deeds_same_18 : decode b_Deeds_same 18 = .ok (.getfield 15, 3) := by decide +kernel
theorem d_Deeds_same_21 : decode b_Deeds_same 21 = .ok (.aload_n 0, 1) := by decide +kernel
theorem d_Deeds_same_22 : decode b_Deeds_same 22 = .ok (.getfield 34, 3) := by decide +kernel
theorem d_Deeds_same_25 : decode b_Deeds_same 25 = .ok (.iload_n 1, 1) := by decide +kernel
theorem d_Deeds_same_26 : decode b_Deeds_same 26 = .ok (.iload_n 2, 1) := by decide +kernel
theorem d_Deeds_same_27 : decode b_Deeds_same 27 = .ok (.invokevirtual 147, 3) := by decide +kernel
theorem d_Deeds_same_30 : decode b_Deeds_same 30 = .ok (.invokevirtual 150, 3) := by decide +kernel
theorem d_Deeds_same_33 : decode b_Deeds_same 33 = .ok (.ireturn, 1) := by decide +kernel
theorem lk_Deeds_143 : Cond.methodLink "TurtleWorld$Deeds" 143 ⟨"TurtleWorld$Turtles", "exists", "(I)Z"⟩ ∈ tw_T := tw_i6 135 (by decide +kernel) (by decide +kernel)
theorem lk_Deeds_34 : Cond.fieldLink "TurtleWorld$Deeds" 34 "TurtleWorld$Deeds" "turtles" "LTurtleWorld$Turtles;" ∈ tw_T := tw_i3 139 (by decide +kernel) (by decide +kernel)
theorem lk_Deeds_147 : Cond.methodLink "TurtleWorld$Deeds" 147 ⟨"TurtleWorld$Turtles", "atOnePlace", "(II)Z"⟩ ∈ tw_T := tw_i6 137 (by decide +kernel) (by decide +kernel)
theorem in_Turtles_atOnePlace : Cond.instanceMethod ⟨"TurtleWorld$Turtles", "atOnePlace", "(II)Z"⟩ ∈ tw_T := tw_i6 138 (by decide +kernel) (by decide +kernel)
theorem sel_Turtles_atOnePlace : Cond.selects "TurtleWorld$Turtles" ⟨"TurtleWorld$Turtles", "atOnePlace", "(II)Z"⟩ ⟨"TurtleWorld$Turtles", "atOnePlace", "(II)Z"⟩ ∈ tw_T := tw_i6 139 (by decide +kernel) (by decide +kernel)
theorem lk_Deeds_150 : Cond.methodLink "TurtleWorld$Deeds" 150 ⟨"TurtleWorld$Heap", "truth", "(Z)I"⟩ ∈ tw_T := tw_i6 141 (by decide +kernel) (by decide +kernel)
theorem in_Heap_truth : Cond.instanceMethod ⟨"TurtleWorld$Heap", "truth", "(Z)I"⟩ ∈ tw_T := tw_i6 142 (by decide +kernel) (by decide +kernel)
theorem sel_Heap_truth : Cond.selects "TurtleWorld$Heap" ⟨"TurtleWorld$Heap", "truth", "(Z)I"⟩ ⟨"TurtleWorld$Heap", "truth", "(Z)I"⟩ ∈ tw_T := tw_i6 143 (by decide +kernel) (by decide +kernel)
