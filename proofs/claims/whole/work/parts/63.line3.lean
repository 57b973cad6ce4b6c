theorem d_World_keep_0 : decode b_World_keep 0 = .ok (.aload_n 0, 1) := by decide +kernel
theorem d_World_keep_1 : decode b_World_keep 1 = .ok (.getfield 26, 3) := by decide +kernel
theorem d_World_keep_4 : decode b_World_keep 4 = .ok (.invokevirtual 265, 3) := by decide +kernel
theorem d_World_keep_7 : decode b_World_keep 7 = .ok (.aload_n 0, 1) := by decide +kernel
theorem d_World_keep_8 : decode b_World_keep 8 = .ok (.getfield 33, 3) := by decide +kernel
theorem d_World_keep_11 : decode b_World_keep 11 = .ok (.invokevirtual 266, 3) := by decide +kernel
theorem d_World_keep_14 : decode b_World_keep 14 = .ok (.aload_n 0, 1) := by decide +kernel
theorem d_World_keep_15 : decode b_World_keep 15 = .ok (.getfield 40, 3) := by decide +kernel
theorem d_World_keep_18 : decode b_World_keep 18 = .ok (.invokevirtual 267, 3) := by decide +kernel
theorem d_World_keep_21 : decode b_World_keep 21 = .ok (.aload_n 0, 1) := by decide +kernel
theorem d_World_keep_22 : decode b_World_keep 22 = .ok (.getfield 47, 3) := by decide +kernel
theorem d_World_keep_25 : decode b_World_keep 25 = .ok (.invokevirtual 268, 3) := by decide +kernel
theorem d_World_keep_28 : decode b_World_keep 28 = .ok (.aload_n 0, 1) := by decide +kernel
theorem d_World_keep_29 : decode b_World_keep 29 = .ok (.aload_n 0, 1) := by decide +kernel
theorem d_World_keep_30 : decode b_World_keep 30 = .ok (.getfield 75, 3) := by decide +kernel
theorem d_World_keep_33 : decode b_World_keep 33 = .ok (.getfield 180, 3) := by decide +kernel
theorem d_World_keep_36 : decode b_World_keep 36 = .ok (.putfield 269, 3) := by decide +kernel
theorem d_World_keep_39 : decode b_World_keep 39 = .ok (.aload_n 0, 1) := by decide +kernel
theorem d_World_keep_40 : decode b_World_keep 40 = .ok (.aload_n 0, 1) := by decide +kernel
theorem d_World_keep_41 : decode b_World_keep 41 = .ok (.getfield 17, 3) := by decide +kernel
theorem d_World_keep_44 : decode b_World_keep 44 = .ok (.getfield 272, 3) := by decide +kernel
theorem d_World_keep_47 : decode b_World_keep 47 = .ok (.putfield 275, 3) := by decide +kernel
theorem d_World_keep_50 : decode b_World_keep 50 = .ok (.aload_n 0, 1) := by decide +kernel
theorem d_World_keep_51 : decode b_World_keep 51 = .ok (.iconst 1, 1) := by decide +kernel
theorem d_World_keep_52 : decode b_World_keep 52 = .ok (.putfield 115, 3) := by decide +kernel
theorem d_World_keep_55 : decode b_World_keep 55 = .ok (.return_, 1) := by decide +kernel
theorem lk_World_265 : Cond.methodLink "TurtleWorld" 265 ⟨"TurtleWorld$Names", "keep", "()V"⟩ ∈ tw_T := tw_i4 220 (by decide +kernel) (by decide +kernel)
theorem in_Names_keep : Cond.instanceMethod ⟨"TurtleWorld$Names", "keep", "()V"⟩ ∈ tw_T := tw_i4 221 (by decide +kernel) (by decide +kernel)
theorem sel_Names_keep : Cond.selects "TurtleWorld$Names" ⟨"TurtleWorld$Names", "keep", "()V"⟩ ⟨"TurtleWorld$Names", "keep", "()V"⟩ ∈ tw_T := tw_i4 222 (by decide +kernel) (by decide +kernel)
theorem lk_World_266 : Cond.methodLink "TurtleWorld" 266 ⟨"TurtleWorld$Procedures", "keep", "()V"⟩ ∈ tw_T := tw_i4 225 (by decide +kernel) (by decide +kernel)
theorem in_Procedures_keep : Cond.instanceMethod ⟨"TurtleWorld$Procedures", "keep", "()V"⟩ ∈ tw_T := tw_i4 226 (by decide +kernel) (by decide +kernel)
theorem sel_Procedures_keep : Cond.selects "TurtleWorld$Procedures" ⟨"TurtleWorld$Procedures", "keep", "()V"⟩ ⟨"TurtleWorld$Procedures", "keep", "()V"⟩ ∈ tw_T := tw_i4 227 (by decide +kernel) (by decide +kernel)
theorem lk_World_267 : Cond.methodLink "TurtleWorld" 267 ⟨"TurtleWorld$Turtles", "keep", "()V"⟩ ∈ tw_T := tw_i4 230 (by decide +kernel) (by decide +kernel)
theorem in_Turtles_keep : Cond.instanceMethod ⟨"TurtleWorld$Turtles", "keep", "()V"⟩ ∈ tw_T := tw_i4 231 (by decide +kernel) (by decide +kernel)
theorem sel_Turtles_keep : Cond.selects "TurtleWorld$Turtles" ⟨"TurtleWorld$Turtles", "keep", "()V"⟩ ⟨"TurtleWorld$Turtles", "keep", "()V"⟩ ∈ tw_T := tw_i4 232 (by decide +kernel) (by decide +kernel)
theorem lk_World_268 : Cond.methodLink "TurtleWorld" 268 ⟨"TurtleWorld$Output", "keep", "()V"⟩ ∈ tw_T := tw_i4 235 (by decide +kernel) (by decide +kernel)
theorem in_Output_keep : Cond.instanceMethod ⟨"TurtleWorld$Output", "keep", "()V"⟩ ∈ tw_T := tw_i4 236 (by decide +kernel) (by decide +kernel)
theorem sel_Output_keep : Cond.selects "TurtleWorld$Output" ⟨"TurtleWorld$Output", "keep", "()V"⟩ ⟨"TurtleWorld$Output", "keep", "()V"⟩ ∈ tw_T := tw_i4 237 (by decide +kernel) (by decide +kernel)
theorem lk_World_269 : Cond.fieldLink "TurtleWorld" 269 "TurtleWorld" "keptSeed" "I" ∈ tw_T := tw_i3 205 (by decide +kernel) (by decide +kernel)
theorem lk_World_272 : Cond.fieldLink "TurtleWorld" 272 "TurtleWorld$Heap" "top" "I" ∈ tw_T := tw_i1 212 (by decide +kernel) (by decide +kernel)
theorem lk_World_275 : Cond.fieldLink "TurtleWorld" 275 "TurtleWorld" "keptTop" "I" ∈ tw_T := tw_i3 204 (by decide +kernel) (by decide +kernel)
