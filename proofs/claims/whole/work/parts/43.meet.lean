theorem d_Machine_meetProcedure_0 : decode b_Machine_meetProcedure 0 = .ok (.aload_n 0, 1) := by decide +kernel
theorem d_Machine_meetProcedure_1 : decode b_Machine_meetProcedure 1 = .ok (.getfield 30, 3) := by decide +kernel
theorem d_Machine_meetProcedure_4 : decode b_Machine_meetProcedure 4 = .ok (.iload_n 1, 1) := by decide +kernel
theorem d_Machine_meetProcedure_5 : decode b_Machine_meetProcedure 5 = .ok (.invokevirtual 212, 3) := by decide +kernel
theorem d_Machine_meetProcedure_8 : decode b_Machine_meetProcedure 8 = .ok (.istore_n 2, 1) := by decide +kernel
theorem d_Machine_meetProcedure_9 : decode b_Machine_meetProcedure 9 = .ok (.iload_n 2, 1) := by decide +kernel
theorem d_Machine_meetProcedure_10 : decode b_Machine_meetProcedure 10 = .ok (.ifCond .ge 6, 3) := by decide +kernel
theorem d_Machine_meetProcedure_13 : decode b_Machine_meetProcedure 13 = .ok (.ldc 208, 2) := by decide +kernel
theorem d_Machine_meetProcedure_15 : decode b_Machine_meetProcedure 15 = .ok (.ireturn, 1) := by decide +kernel
theorem d_Machine_meetProcedure_16 : decode b_Machine_meetProcedure 16 = .ok (.aload_n 0, 1) := by decide +kernel
theorem d_Machine_meetProcedure_17 : decode b_Machine_meetProcedure 17 = .ok (.getfield 30, 3) := by decide +kernel
theorem d_Machine_meetProcedure_20 : decode b_Machine_meetProcedure 20 = .ok (.getfield 215, 3) := by decide +kernel
theorem d_Machine_meetProcedure_23 : decode b_Machine_meetProcedure 23 = .ok (.iload_n 2, 1) := by decide +kernel
theorem d_Machine_meetProcedure_24 : decode b_Machine_meetProcedure 24 = .ok (.iaload, 1) := by decide +kernel
theorem d_Machine_meetProcedure_25 : decode b_Machine_meetProcedure 25 = .ok (.istore_n 3, 1) := by decide +kernel
theorem d_Machine_meetProcedure_26 : decode b_Machine_meetProcedure 26 = .ok (.aload_n 0, 1) := by decide +kernel
theorem d_Machine_meetProcedure_27 : decode b_Machine_meetProcedure 27 = .ok (.getfield 22, 3) := by decide +kernel
theorem d_Machine_meetProcedure_30 : decode b_Machine_meetProcedure 30 = .ok (.iload_n 2, 1) := by decide +kernel
theorem d_Machine_meetProcedure_31 : decode b_Machine_meetProcedure 31 = .ok (.iload_n 3, 1) := by decide +kernel
theorem d_Machine_meetProcedure_32 : decode b_Machine_meetProcedure 32 = .ok (.aload_n 0, 1) := by decide +kernel
theorem d_Machine_meetProcedure_33 : decode b_Machine_meetProcedure 33 = .ok (.getfield 30, 3) := by decide +kernel
theorem d_Machine_meetProcedure_36 : decode b_Machine_meetProcedure 36 = .ok (.getfield 218, 3) := by decide +kernel
theorem d_Machine_meetProcedure_39 : decode b_Machine_meetProcedure 39 = .ok (.iload_n 2, 1) := by decide +kernel
theorem d_Machine_meetProcedure_40 : decode b_Machine_meetProcedure 40 = .ok (.iaload, 1) := by decide +kernel
theorem d_Machine_meetProcedure_41 : decode b_Machine_meetProcedure 41 = .ok (.aload_n 0, 1) := by decide +kernel
theorem d_Machine_meetProcedure_42 : decode b_Machine_meetProcedure 42 = .ok (.getfield 15, 3) := by decide +kernel
theorem d_Machine_meetProcedure_45 : decode b_Machine_meetProcedure 45 = .ok (.iload_n 3, 1) := by decide +kernel
theorem d_Machine_meetProcedure_46 : decode b_Machine_meetProcedure 46 = .ok (.invokevirtual 221, 3) := by decide +kernel
theorem d_Machine_meetProcedure_49 : decode b_Machine_meetProcedure 49 = .ok (.invokevirtual 223, 3) := by decide +kernel
theorem d_Machine_meetProcedure_52 : decode b_Machine_meetProcedure 52 = .ok (.aload_n 0, 1) := by decide +kernel
theorem d_Machine_meetProcedure_53 : decode b_Machine_meetProcedure 53 = .ok (.getfield 22, 3) := by decide +kernel
theorem d_Machine_meetProcedure_56 : decode b_Machine_meetProcedure 56 = .ok (.invokevirtual 209, 3) := by decide +kernel
theorem d_Machine_meetProcedure_59 : decode b_Machine_meetProcedure 59 = .ok (.ireturn, 1) := by decide +kernel
theorem lk_Machine_30 : Cond.fieldLink "TurtleWorld$Machine" 30 "TurtleWorld$Machine" "procedures" "LTurtleWorld$Procedures;" ∈ tw_T := tw_i3 170 (by decide +kernel) (by decide +kernel)
theorem lk_Machine_212 : Cond.methodLink "TurtleWorld$Machine" 212 ⟨"TurtleWorld$Procedures", "find", "(I)I"⟩ ∈ tw_T := tw_i5 79 (by decide +kernel) (by decide +kernel)
theorem lk_Machine_215 : Cond.fieldLink "TurtleWorld$Machine" 215 "TurtleWorld$Procedures" "inputs" "[I" ∈ tw_T := tw_i2 50 (by decide +kernel) (by decide +kernel)
theorem lk_Machine_218 : Cond.fieldLink "TurtleWorld$Machine" 218 "TurtleWorld$Procedures" "bodies" "[I" ∈ tw_T := tw_i2 54 (by decide +kernel) (by decide +kernel)
theorem lk_Machine_223 : Cond.methodLink "TurtleWorld$Machine" 223 ⟨"TurtleWorld$Waiting", "meetCall", "(IIII)V"⟩ ∈ tw_T := tw_i5 82 (by decide +kernel) (by decide +kernel)
theorem in_Waiting_meetCall : Cond.instanceMethod ⟨"TurtleWorld$Waiting", "meetCall", "(IIII)V"⟩ ∈ tw_T := tw_i5 83 (by decide +kernel) (by decide +kernel)
theorem sel_Waiting_meetCall : Cond.selects "TurtleWorld$Waiting" ⟨"TurtleWorld$Waiting", "meetCall", "(IIII)V"⟩ ⟨"TurtleWorld$Waiting", "meetCall", "(IIII)V"⟩ ∈ tw_T := tw_i5 84 (by decide +kernel) (by decide +kernel)
theorem lk_Machine_209 : Cond.methodLink "TurtleWorld$Machine" 209 ⟨"TurtleWorld$Waiting", "settleLast", "()I"⟩ ∈ tw_T := tw_i5 90 (by decide +kernel) (by decide +kernel)
theorem in_Waiting_settleLast : Cond.instanceMethod ⟨"TurtleWorld$Waiting", "settleLast", "()I"⟩ ∈ tw_T := tw_i5 91 (by decide +kernel) (by decide +kernel)
theorem sel_Waiting_settleLast : Cond.selects "TurtleWorld$Waiting" ⟨"TurtleWorld$Waiting", "settleLast", "()I"⟩ ⟨"TurtleWorld$Waiting", "settleLast", "()I"⟩ ∈ tw_T := tw_i5 92 (by decide +kernel) (by decide +kernel)
