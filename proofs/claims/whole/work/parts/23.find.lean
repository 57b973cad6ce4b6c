theorem d_Names_find_0 : decode b_Names_find 0 = .ok (.aload_n 0, 1) := by decide +kernel
theorem d_Names_find_1 : decode b_Names_find 1 = .ok (.iload_n 1, 1) := by decide +kernel
theorem d_Names_find_2 : decode b_Names_find 2 = .ok (.iconst 0, 1) := by decide +kernel
theorem d_Names_find_3 : decode b_Names_find 3 = .ok (.invokevirtual 44, 3) := by decide +kernel
theorem d_Names_find_6 : decode b_Names_find 6 = .ok (.istore_n 2, 1) := by decide +kernel
theorem d_Names_find_7 : decode b_Names_find 7 = .ok (.iload_n 2, 1) := by decide +kernel
theorem d_Names_find_8 : decode b_Names_find 8 = .ok (.ifCond .lt 26, 3) := by decide +kernel
theorem d_Names_find_11 : decode b_Names_find 11 = .ok (.aload_n 0, 1) := by decide +kernel
theorem d_Names_find_12 : decode b_Names_find 12 = .ok (.getfield 21, 3) := by decide +kernel
theorem d_Names_find_15 : decode b_Names_find 15 = .ok (.iload_n 2, 1) := by decide +kernel
theorem d_Names_find_16 : decode b_Names_find 16 = .ok (.iaload, 1) := by decide +kernel
theorem d_Names_find_17 : decode b_Names_find 17 = .ok (.ldc 48, 2) := by decide +kernel
theorem d_Names_find_19 : decode b_Names_find 19 = .ok (.if_icmp .ne 8, 3) := by decide +kernel
theorem d_Names_find_22 : decode b_Names_find 22 = .ok (.ldc 49, 2) := by decide +kernel
theorem d_Names_find_24 : decode b_Names_find 24 = .ok (.goto 9, 3) := by decide +kernel
theorem d_Names_find_27 : decode b_Names_find 27 = .ok (.aload_n 0, 1) := by decide +kernel
theorem d_Names_find_28 : decode b_Names_find 28 = .ok (.getfield 21, 3) := by decide +kernel
theorem d_Names_find_31 : decode b_Names_find 31 = .ok (.iload_n 2, 1) := by decide +kernel
theorem d_Names_find_32 : decode b_Names_find 32 = .ok (.iaload, 1) := by decide +kernel
theorem d_Names_find_33 : decode b_Names_find 33 = .ok (.ireturn, 1) := by decide +kernel
theorem d_Names_find_34 : decode b_Names_find 34 = .ok (.aload_n 0, 1) := by decide +kernel
theorem d_Names_find_35 : decode b_Names_find 35 = .ok (.iload_n 1, 1) := by decide +kernel
theorem d_Names_find_36 : decode b_Names_find 36 = .ok (.invokevirtual 50, 3) := by decide +kernel
theorem d_Names_find_39 : decode b_Names_find 39 = .ok (.istore_n 3, 1) := by decide +kernel
theorem d_Names_find_40 : decode b_Names_find 40 = .ok (.iload_n 3, 1) := by decide +kernel
theorem d_Names_find_41 : decode b_Names_find 41 = .ok (.ifCond .lt 12, 3) := by decide +kernel
theorem d_Names_find_44 : decode b_Names_find 44 = .ok (.aload_n 0, 1) := by decide +kernel
theorem d_Names_find_45 : decode b_Names_find 45 = .ok (.getfield 15, 3) := by decide +kernel
theorem d_Names_find_48 : decode b_Names_find 48 = .ok (.iload_n 3, 1) := by decide +kernel
theorem d_Names_find_49 : decode b_Names_find 49 = .ok (.iaload, 1) := by decide +kernel
theorem d_Names_find_50 : decode b_Names_find 50 = .ok (.goto 5, 3) := by decide +kernel
theorem d_Names_find_53 : decode b_Names_find 53 = .ok (.ldc 49, 2) := by decide +kernel
theorem d_Names_find_55 : decode b_Names_find 55 = .ok (.ireturn, 1) := by decide +kernel
theorem lk_Names_44 : Cond.methodLink "TurtleWorld$Names" 44 ⟨"TurtleWorld$Names", "findLocal", "(II)I"⟩ ∈ tw_T := tw_i5 64 (by decide +kernel) (by decide +kernel)
theorem in_Names_findLocal : Cond.instanceMethod ⟨"TurtleWorld$Names", "findLocal", "(II)I"⟩ ∈ tw_T := tw_i5 65 (by decide +kernel) (by decide +kernel)
theorem sel_Names_findLocal : Cond.selects "TurtleWorld$Names" ⟨"TurtleWorld$Names", "findLocal", "(II)I"⟩ ⟨"TurtleWorld$Names", "findLocal", "(II)I"⟩ ∈ tw_T := tw_i5 66 (by decide +kernel) (by decide +kernel)
theorem ini_Names : Cond.initialized "TurtleWorld$Names" ∈ tw_T := tw_i1 11 (by decide +kernel) (by decide +kernel)
theorem lk_Names_50 : Cond.methodLink "TurtleWorld$Names" 50 ⟨"TurtleWorld$Names", "findGlobal", "(I)I"⟩ ∈ tw_T := tw_i5 71 (by decide +kernel) (by decide +kernel)
theorem in_Names_findGlobal : Cond.instanceMethod ⟨"TurtleWorld$Names", "findGlobal", "(I)I"⟩ ∈ tw_T := tw_i5 73 (by decide +kernel) (by decide +kernel)
theorem sel_Names_findGlobal : Cond.selects "TurtleWorld$Names" ⟨"TurtleWorld$Names", "findGlobal", "(I)I"⟩ ⟨"TurtleWorld$Names", "findGlobal", "(I)I"⟩ ∈ tw_T := tw_inS 36 (by decide +kernel) (by decide +kernel)
theorem lk_Names_49 : Cond.constant "TurtleWorld$Names" 49 (-2147483646) ∈ tw_T := tw_i5 70 (by decide +kernel) (by decide +kernel)
