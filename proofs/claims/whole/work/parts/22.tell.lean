theorem d_Procedures_tell_0 : decode b_Procedures_tell 0 = .ok (.aload_n 0, 1) := by decide +kernel
theorem d_Procedures_tell_1 : decode b_Procedures_tell 1 = .ok (.iload_n 1, 1) := by decide +kernel
theorem d_Procedures_tell_2 : decode b_Procedures_tell 2 = .ok (.invokevirtual 41, 3) := by decide +kernel
theorem d_Procedures_tell_5 : decode b_Procedures_tell 5 = .ok (.istore 4, 2) := by decide +kernel
theorem d_Procedures_tell_7 : decode b_Procedures_tell 7 = .ok (.iload 4, 2) := by decide +kernel
theorem d_Procedures_tell_9 : decode b_Procedures_tell 9 = .ok (.ifCond .ge 14, 3) := by decide +kernel
theorem d_Procedures_tell_12 : decode b_Procedures_tell 12 = .ok (.aload_n 0, 1) := by decide +kernel
theorem d_Procedures_tell_13 : decode b_Procedures_tell 13 = .ok (.getfield 31, 3) := by decide +kernel
theorem d_Procedures_tell_16 : decode b_Procedures_tell 16 = .ok (.bipush 40, 2) := by decide +kernel
theorem d_Procedures_tell_18 : decode b_Procedures_tell 18 = .ok (.if_icmp .lt 5, 3) := by decide +kernel
theorem d_Procedures_tell_21 : decode b_Procedures_tell 21 = .ok (.iconst 0, 1) := by decide +kernel
theorem d_Procedures_tell_22 : decode b_Procedures_tell 22 = .ok (.ireturn, 1) := by decide +kernel
theorem d_Procedures_tell_23 : decode b_Procedures_tell 23 = .ok (.iload 4, 2) := by decide +kernel
theorem d_Procedures_tell_25 : decode b_Procedures_tell 25 = .ok (.ifCond .ge 27, 3) := by decide +kernel
theorem d_Procedures_tell_28 : decode b_Procedures_tell 28 = .ok (.aload_n 0, 1) := by decide +kernel
theorem d_Procedures_tell_29 : decode b_Procedures_tell 29 = .ok (.getfield 31, 3) := by decide +kernel
theorem d_Procedures_tell_32 : decode b_Procedures_tell 32 = .ok (.istore 4, 2) := by decide +kernel
theorem d_Procedures_tell_34 : decode b_Procedures_tell 34 = .ok (.aload_n 0, 1) := by decide +kernel
theorem d_Procedures_tell_35 : decode b_Procedures_tell 35 = .ok (.getfield 11, 3) := by decide +kernel
theorem d_Procedures_tell_38 : decode b_Procedures_tell 38 = .ok (.iload 4, 2) := by decide +kernel
theorem d_Procedures_tell_40 : decode b_Procedures_tell 40 = .ok (.iload_n 1, 1) := by decide +kernel
theorem d_Procedures_tell_41 : decode b_Procedures_tell 41 = .ok (.iastore, 1) := by decide +kernel
theorem d_Procedures_tell_42 : decode b_Procedures_tell 42 = .ok (.aload_n 0, 1) := by decide +kernel
theorem d_Procedures_tell_43 : decode b_Procedures_tell 43 = .ok (.dup, 1) := by decide +kernel
theorem d_Procedures_tell_44 : decode b_Procedures_tell 44 = .ok (.getfield 31, 3) := by decide +kernel
theorem d_Procedures_tell_47 : decode b_Procedures_tell 47 = .ok (.iconst 1, 1) := by decide +kernel
theorem d_Procedures_tell_48 : decode b_Procedures_tell 48 = .ok (.iadd, 1) := by decide +kernel
theorem d_Procedures_tell_49 : decode b_Procedures_tell 49 = .ok (.putfield 31, 3) := by decide +kernel
theorem d_Procedures_tell_52 : decode b_Procedures_tell 52 = .ok (.aload_n 0, 1) := by decide +kernel
theorem d_Procedures_tell_53 : decode b_Procedures_tell 53 = .ok (.getfield 15, 3) := by decide +kernel
theorem d_Procedures_tell_56 : decode b_Procedures_tell 56 = .ok (.iload 4, 2) := by decide +kernel
theorem d_Procedures_tell_58 : decode b_Procedures_tell 58 = .ok (.iload_n 2, 1) := by decide +kernel
theorem d_Procedures_tell_59 : decode b_Procedures_tell 59 = .ok (.iastore, 1) := by decide +kernel
theorem d_Procedures_tell_60 : decode b_Procedures_tell 60 = .ok (.aload_n 0, 1) := by decide +kernel
theorem d_Procedures_tell_61 : decode b_Procedures_tell 61 = .ok (.getfield 18, 3) := by decide +kernel
theorem d_Procedures_tell_64 : decode b_Procedures_tell 64 = .ok (.iload 4, 2) := by decide +kernel
theorem d_Procedures_tell_66 : decode b_Procedures_tell 66 = .ok (.iload_n 3, 1) := by decide +kernel
theorem d_Procedures_tell_67 : decode b_Procedures_tell 67 = .ok (.iastore, 1) := by decide +kernel
theorem d_Procedures_tell_68 : decode b_Procedures_tell 68 = .ok (.iconst 1, 1) := by decide +kernel
theorem d_Procedures_tell_69 : decode b_Procedures_tell 69 = .ok (.ireturn, 1) := by decide +kernel
theorem lk_Procedures_41 : Cond.methodLink "TurtleWorld$Procedures" 41 ⟨"TurtleWorld$Procedures", "find", "(I)I"⟩ ∈ tw_T := tw_i4 157 (by decide +kernel) (by decide +kernel)
theorem in_Procedures_find : Cond.instanceMethod ⟨"TurtleWorld$Procedures", "find", "(I)I"⟩ ∈ tw_T := tw_i4 129 (by decide +kernel) (by decide +kernel)
theorem sel_Procedures_find : Cond.selects "TurtleWorld$Procedures" ⟨"TurtleWorld$Procedures", "find", "(I)I"⟩ ⟨"TurtleWorld$Procedures", "find", "(I)I"⟩ ∈ tw_T := tw_i4 130 (by decide +kernel) (by decide +kernel)
theorem ini_Procedures : Cond.initialized "TurtleWorld$Procedures" ∈ tw_T := tw_i1 12 (by decide +kernel) (by decide +kernel)
