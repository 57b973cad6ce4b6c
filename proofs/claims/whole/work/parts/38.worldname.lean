theorem d_World_name_0 : decode b_World_name 0 = .ok (.aload_n 0, 1) := by decide +kernel
theorem d_World_name_1 : decode b_World_name 1 = .ok (.getfield 17, 3) := by decide +kernel
theorem d_World_name_4 : decode b_World_name 4 = .ok (.aload_n 0, 1) := by decide +kernel
theorem d_World_name_5 : decode b_World_name 5 = .ok (.getfield 26, 3) := by decide +kernel
theorem d_World_name_8 : decode b_World_name 8 = .ok (.iload_n 1, 1) := by decide +kernel
theorem d_World_name_9 : decode b_World_name 9 = .ok (.invokevirtual 206, 3) := by decide +kernel
theorem d_World_name_12 : decode b_World_name 12 = .ok (.iload_n 2, 1) := by decide +kernel
theorem d_World_name_13 : decode b_World_name 13 = .ok (.invokevirtual 209, 3) := by decide +kernel
theorem d_World_name_16 : decode b_World_name 16 = .ok (.ireturn, 1) := by decide +kernel
theorem lk_World_17 : Cond.fieldLink "TurtleWorld" 17 "TurtleWorld" "heap" "LTurtleWorld$Heap;" ∈ tw_T := tw_i3 194 (by decide +kernel) (by decide +kernel)
theorem lk_World_206 : Cond.methodLink "TurtleWorld" 206 ⟨"TurtleWorld$Names", "globalName", "(I)I"⟩ ∈ tw_T := tw_i7 178 (by decide +kernel) (by decide +kernel)
theorem in_Names_globalName : Cond.instanceMethod ⟨"TurtleWorld$Names", "globalName", "(I)I"⟩ ∈ tw_T := tw_i7 179 (by decide +kernel) (by decide +kernel)
theorem sel_Names_globalName : Cond.selects "TurtleWorld$Names" ⟨"TurtleWorld$Names", "globalName", "(I)I"⟩ ⟨"TurtleWorld$Names", "globalName", "(I)I"⟩ ∈ tw_T := tw_i7 180 (by decide +kernel) (by decide +kernel)
theorem lk_World_209 : Cond.methodLink "TurtleWorld" 209 ⟨"TurtleWorld$Heap", "letter", "(II)I"⟩ ∈ tw_T := tw_i7 182 (by decide +kernel) (by decide +kernel)
theorem in_Heap_letter : Cond.instanceMethod ⟨"TurtleWorld$Heap", "letter", "(II)I"⟩ ∈ tw_T := tw_i7 183 (by decide +kernel) (by decide +kernel)
theorem sel_Heap_letter : Cond.selects "TurtleWorld$Heap" ⟨"TurtleWorld$Heap", "letter", "(II)I"⟩ ⟨"TurtleWorld$Heap", "letter", "(II)I"⟩ ∈ tw_T := tw_i7 184 (by decide +kernel) (by decide +kernel)
theorem d_World_procedure_0 : decode b_World_procedure 0 = .ok (.iload_n 1, 1) := by decide +kernel
theorem d_World_procedure_1 : decode b_World_procedure 1 = .ok (.ifCond .lt 18, 3) := by decide +kernel
theorem d_World_procedure_4 : decode b_World_procedure 4 = .ok (.iload_n 1, 1) := by decide +kernel
theorem d_World_procedure_5 : decode b_World_procedure 5 = .ok (.aload_n 0, 1) := by decide +kernel
theorem d_World_procedure_6 : decode b_World_procedure 6 = .ok (.getfield 33, 3) := by decide +kernel
theorem d_World_procedure_9 : decode b_World_procedure 9 = .ok (.getfield 172, 3) := by decide +kernel
theorem d_World_procedure_12 : decode b_World_procedure 12 = .ok (.if_icmp .ge 7, 3) := by decide +kernel
theorem d_World_procedure_15 : decode b_World_procedure 15 = .ok (.iload_n 2, 1) := by decide +kernel
theorem d_World_procedure_16 : decode b_World_procedure 16 = .ok (.ifCond .ge 5, 3) := by decide +kernel
theorem d_World_procedure_19 : decode b_World_procedure 19 = .ok (.iconst (-1), 1) := by decide +kernel
theorem d_World_procedure_20 : decode b_World_procedure 20 = .ok (.ireturn, 1) := by decide +kernel
theorem d_World_procedure_21 : decode b_World_procedure 21 = .ok (.iload_n 2, 1) := by decide +kernel
theorem d_World_procedure_22 : decode b_World_procedure 22 = .ok (.ifCond .ne 20, 3) := by decide +kernel
theorem d_World_procedure_25 : decode b_World_procedure 25 = .ok (.aload_n 0, 1) := by decide +kernel
theorem d_World_procedure_26 : decode b_World_procedure 26 = .ok (.getfield 17, 3) := by decide +kernel
theorem d_World_procedure_29 : decode b_World_procedure 29 = .ok (.aload_n 0, 1) := by decide +kernel
theorem d_World_procedure_30 : decode b_World_procedure 30 = .ok (.getfield 33, 3) := by decide +kernel
theorem d_World_procedure_33 : decode b_World_procedure 33 = .ok (.getfield 225, 3) := by decide +kernel
theorem d_World_procedure_36 : decode b_World_procedure 36 = .ok (.iload_n 1, 1) := by decide +kernel
theorem d_World_procedure_37 : decode b_World_procedure 37 = .ok (.iaload, 1) := by decide +kernel
theorem d_World_procedure_38 : decode b_World_procedure 38 = .ok (.invokevirtual 131, 3) := by decide +kernel
theorem d_World_procedure_41 : decode b_World_procedure 41 = .ok (.ireturn, 1) := by decide +kernel
theorem d_World_procedure_42 : decode b_World_procedure 42 = .ok (.iload_n 2, 1) := by decide +kernel
theorem d_World_procedure_43 : decode b_World_procedure 43 = .ok (.iconst 1, 1) := by decide +kernel
theorem d_World_procedure_44 : decode b_World_procedure 44 = .ok (.if_icmp .ne 22, 3) := by decide +kernel
theorem d_World_procedure_47 : decode b_World_procedure 47 = .ok (.aload_n 0, 1) := by decide +kernel
theorem d_World_procedure_48 : decode b_World_procedure 48 = .ok (.getfield 17, 3) := by decide +kernel
theorem d_World_procedure_51 : decode b_World_procedure 51 = .ok (.aload_n 0, 1) := by decide +kernel
theorem d_World_procedure_52 : decode b_World_procedure 52 = .ok (.getfield 33, 3) := by decide +kernel
theorem d_World_procedure_55 : decode b_World_procedure 55 = .ok (.getfield 229, 3) := by decide +kernel
theorem d_World_procedure_58 : decode b_World_procedure 58 = .ok (.iload_n 1, 1) := by decide +kernel
theorem d_World_procedure_59 : decode b_World_procedure 59 = .ok (.iaload, 1) := by decide +kernel
theorem d_World_procedure_60 : decode b_World_procedure 60 = .ok (.invokevirtual 131, 3) := by decide +kernel
theorem d_World_procedure_63 : decode b_World_procedure 63 = .ok (.goto 22, 3) := by decide +kernel
theorem d_World_procedure_66 : decode b_World_procedure 66 = .ok (.aload_n 0, 1) := by decide +kernel
theorem d_World_procedure_67 : decode b_World_procedure 67 = .ok (.getfield 17, 3) := by decide +kernel
theorem d_World_procedure_70 : decode b_World_procedure 70 = .ok (.aload_n 0, 1) := by decide +kernel
theorem d_World_procedure_71 : decode b_World_procedure 71 = .ok (.getfield 33, 3) := by decide +kernel
theorem d_World_procedure_74 : decode b_World_procedure 74 = .ok (.getfield 232, 3) := by decide +kernel
theorem d_World_procedure_77 : decode b_World_procedure 77 = .ok (.iload_n 1, 1) := by decide +kernel
theorem d_World_procedure_78 : decode b_World_procedure 78 = .ok (.iaload, 1) := by decide +kernel
theorem d_World_procedure_79 : decode b_World_procedure 79 = .ok (.iload_n 2, 1) := by decide +kernel
theorem d_World_procedure_80 : decode b_World_procedure 80 = .ok (.iconst 2, 1) := by decide +kernel
theorem d_World_procedure_81 : decode b_World_procedure 81 = .ok (.isub, 1) := by decide +kernel
theorem d_World_procedure_82 : decode b_World_procedure 82 = .ok (.invokevirtual 209, 3) := by decide +kernel
theorem d_World_procedure_85 : decode b_World_procedure 85 = .ok (.ireturn, 1) := by decide +kernel
theorem lk_World_232 : Cond.fieldLink "TurtleWorld" 232 "TurtleWorld$Procedures" "names" "[I" ∈ tw_T := tw_i2 48 (by decide +kernel) (by decide +kernel)
theorem lk_World_229 : Cond.fieldLink "TurtleWorld" 229 "TurtleWorld$Procedures" "bodies" "[I" ∈ tw_T := tw_i2 55 (by decide +kernel) (by decide +kernel)
theorem lk_World_131 : Cond.methodLink "TurtleWorld" 131 ⟨"TurtleWorld$Heap", "count", "(I)I"⟩ ∈ tw_T := tw_i5 185 (by decide +kernel) (by decide +kernel)
theorem lk_World_225 : Cond.fieldLink "TurtleWorld" 225 "TurtleWorld$Procedures" "inputs" "[I" ∈ tw_T := tw_i2 51 (by decide +kernel) (by decide +kernel)
