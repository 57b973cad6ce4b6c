theorem d_Machine_signAhead_0 : decode b_Machine_signAhead 0 = .ok (.aload_n 0, 1) := by decide +kernel
theorem d_Machine_signAhead_1 : decode b_Machine_signAhead 1 = .ok (.getfield 15, 3) := by decide +kernel
theorem d_Machine_signAhead_4 : decode b_Machine_signAhead 4 = .ok (.aload_n 0, 1) := by decide +kernel
theorem d_Machine_signAhead_5 : decode b_Machine_signAhead 5 = .ok (.getfield 18, 3) := by decide +kernel
theorem d_Machine_signAhead_8 : decode b_Machine_signAhead 8 = .ok (.getfield 161, 3) := by decide +kernel
theorem d_Machine_signAhead_11 : decode b_Machine_signAhead 11 = .ok (.iload_n 1, 1) := by decide +kernel
theorem d_Machine_signAhead_12 : decode b_Machine_signAhead 12 = .ok (.iaload, 1) := by decide +kernel
theorem d_Machine_signAhead_13 : decode b_Machine_signAhead 13 = .ok (.aload_n 0, 1) := by decide +kernel
theorem d_Machine_signAhead_14 : decode b_Machine_signAhead 14 = .ok (.getfield 18, 3) := by decide +kernel
theorem d_Machine_signAhead_17 : decode b_Machine_signAhead 17 = .ok (.getfield 164, 3) := by decide +kernel
theorem d_Machine_signAhead_20 : decode b_Machine_signAhead 20 = .ok (.iload_n 1, 1) := by decide +kernel
theorem d_Machine_signAhead_21 : decode b_Machine_signAhead 21 = .ok (.iaload, 1) := by decide +kernel
theorem d_Machine_signAhead_22 : decode b_Machine_signAhead 22 = .ok (.invokevirtual 167, 3) := by decide +kernel
theorem d_Machine_signAhead_25 : decode b_Machine_signAhead 25 = .ok (.istore_n 2, 1) := by decide +kernel
theorem d_Machine_signAhead_26 : decode b_Machine_signAhead 26 = .ok (.iload_n 2, 1) := by decide +kernel
theorem d_Machine_signAhead_27 : decode b_Machine_signAhead 27 = .ok (.invokestatic 173, 3) := by decide +kernel
theorem d_Machine_signAhead_30 : decode b_Machine_signAhead 30 = .ok (.ifCond .eq 14, 3) := by decide +kernel
theorem d_Machine_signAhead_33 : decode b_Machine_signAhead 33 = .ok (.aload_n 0, 1) := by decide +kernel
theorem d_Machine_signAhead_34 : decode b_Machine_signAhead 34 = .ok (.getfield 15, 3) := by decide +kernel
theorem d_Machine_signAhead_37 : decode b_Machine_signAhead 37 = .ok (.iload_n 2, 1) := by decide +kernel
theorem d_Machine_signAhead_38 : decode b_Machine_signAhead 38 = .ok (.invokevirtual 180, 3) := by decide +kernel
theorem d_Machine_signAhead_41 : decode b_Machine_signAhead 41 = .ok (.goto 4, 3) := by decide +kernel
theorem d_Machine_signAhead_44 : decode b_Machine_signAhead 44 = .ok (.iconst 0, 1) := by decide +kernel
theorem d_Machine_signAhead_45 : decode b_Machine_signAhead 45 = .ok (.istore_n 3, 1) := by decide +kernel
theorem d_Machine_signAhead_46 : decode b_Machine_signAhead 46 = .ok (.iload_n 3, 1) := by decide +kernel
theorem d_Machine_signAhead_47 : decode b_Machine_signAhead 47 = .ok (.bipush 77, 2) := by decide +kernel
theorem d_Machine_signAhead_49 : decode b_Machine_signAhead 49 = .ok (.if_icmp .lt 16, 3) := by decide +kernel
theorem d_Machine_signAhead_52 : decode b_Machine_signAhead 52 = .ok (.iload_n 3, 1) := by decide +kernel
theorem d_Machine_signAhead_53 : decode b_Machine_signAhead 53 = .ok (.bipush 83, 2) := by decide +kernel
theorem d_Machine_signAhead_55 : decode b_Machine_signAhead 55 = .ok (.if_icmp .gt 10, 3) := by decide +kernel
theorem d_Machine_signAhead_58 : decode b_Machine_signAhead 58 = .ok (.iload_n 3, 1) := by decide +kernel
theorem d_Machine_signAhead_59 : decode b_Machine_signAhead 59 = .ok (.bipush 77, 2) := by decide +kernel
theorem d_Machine_signAhead_61 : decode b_Machine_signAhead 61 = .ok (.isub, 1) := by decide +kernel
theorem d_Machine_signAhead_62 : decode b_Machine_signAhead 62 = .ok (.goto 4, 3) := by decide +kernel
theorem d_Machine_signAhead_65 : decode b_Machine_signAhead 65 = .ok (.iconst (-1), 1) := by decide +kernel
theorem d_Machine_signAhead_66 : decode b_Machine_signAhead 66 = .ok (.ireturn, 1) := by decide +kernel
theorem lk_Machine_173 : Cond.methodLink "TurtleWorld$Machine" 173 ⟨"TurtleWorld$Heap", "isWord", "(I)Z"⟩ ∈ tw_T := tw_i5 45 (by decide +kernel) (by decide +kernel)
theorem lk_Machine_180 : Cond.methodLink "TurtleWorld$Machine" 180 ⟨"TurtleWorld$Heap", "meaning", "(I)I"⟩ ∈ tw_T := tw_i5 50 (by decide +kernel) (by decide +kernel)
theorem in_Heap_meaning : Cond.instanceMethod ⟨"TurtleWorld$Heap", "meaning", "(I)I"⟩ ∈ tw_T := tw_i4 109 (by decide +kernel) (by decide +kernel)
theorem sel_Heap_meaning : Cond.selects "TurtleWorld$Heap" ⟨"TurtleWorld$Heap", "meaning", "(I)I"⟩ ⟨"TurtleWorld$Heap", "meaning", "(I)I"⟩ ∈ tw_T := tw_i4 110 (by decide +kernel) (by decide +kernel)
