theorem d_Names_make_0 : decode b_Names_make 0 = .ok (.aload_n 0, 1) := by decide +kernel
theorem d_Names_make_1 : decode b_Names_make 1 = .ok (.iload_n 1, 1) := by decide +kernel
theorem d_Names_make_2 : decode b_Names_make 2 = .ok (.iconst 0, 1) := by decide +kernel
theorem d_Names_make_3 : decode b_Names_make 3 = .ok (.invokevirtual 44, 3) := by decide +kernel
theorem d_Names_make_6 : decode b_Names_make 6 = .ok (.istore_n 3, 1) := by decide +kernel
theorem d_Names_make_7 : decode b_Names_make 7 = .ok (.iload_n 3, 1) := by decide +kernel
theorem d_Names_make_8 : decode b_Names_make 8 = .ok (.ifCond .lt 13, 3) := by decide +kernel
theorem d_Names_make_11 : decode b_Names_make 11 = .ok (.aload_n 0, 1) := by decide +kernel
theorem d_Names_make_12 : decode b_Names_make 12 = .ok (.getfield 21, 3) := by decide +kernel
theorem d_Names_make_15 : decode b_Names_make 15 = .ok (.iload_n 3, 1) := by decide +kernel
theorem d_Names_make_16 : decode b_Names_make 16 = .ok (.iload_n 2, 1) := by decide +kernel
theorem d_Names_make_17 : decode b_Names_make 17 = .ok (.iastore, 1) := by decide +kernel
theorem d_Names_make_18 : decode b_Names_make 18 = .ok (.ldc 48, 2) := by decide +kernel
theorem d_Names_make_20 : decode b_Names_make 20 = .ok (.ireturn, 1) := by decide +kernel
theorem d_Names_make_21 : decode b_Names_make 21 = .ok (.aload_n 0, 1) := by decide +kernel
theorem d_Names_make_22 : decode b_Names_make 22 = .ok (.iload_n 1, 1) := by decide +kernel
theorem d_Names_make_23 : decode b_Names_make 23 = .ok (.invokevirtual 50, 3) := by decide +kernel
theorem d_Names_make_26 : decode b_Names_make 26 = .ok (.istore 4, 2) := by decide +kernel
theorem d_Names_make_28 : decode b_Names_make 28 = .ok (.aload_n 0, 1) := by decide +kernel
theorem d_Names_make_29 : decode b_Names_make 29 = .ok (.getfield 27, 3) := by decide +kernel
theorem d_Names_make_32 : decode b_Names_make 32 = .ok (.iload_n 2, 1) := by decide +kernel
theorem d_Names_make_33 : decode b_Names_make 33 = .ok (.invokevirtual 54, 3) := by decide +kernel
theorem d_Names_make_36 : decode b_Names_make 36 = .ok (.sipush 300, 3) := by decide +kernel
theorem d_Names_make_39 : decode b_Names_make 39 = .ok (.if_icmp .gt 17, 3) := by decide +kernel
theorem d_Names_make_42 : decode b_Names_make 42 = .ok (.iload 4, 2) := by decide +kernel
theorem d_Names_make_44 : decode b_Names_make 44 = .ok (.ifCond .ge 15, 3) := by decide +kernel
theorem d_Names_make_47 : decode b_Names_make 47 = .ok (.aload_n 0, 1) := by decide +kernel
theorem d_Names_make_48 : decode b_Names_make 48 = .ok (.getfield 41, 3) := by decide +kernel
theorem d_Names_make_51 : decode b_Names_make 51 = .ok (.bipush 64, 2) := by decide +kernel
theorem d_Names_make_53 : decode b_Names_make 53 = .ok (.if_icmp .lt 6, 3) := by decide +kernel
theorem d_Names_make_56 : decode b_Names_make 56 = .ok (.ldc 57, 2) := by decide +kernel
theorem d_Names_make_58 : decode b_Names_make 58 = .ok (.ireturn, 1) := by decide +kernel
theorem d_Names_make_59 : decode b_Names_make 59 = .ok (.iload 4, 2) := by decide +kernel
theorem d_Names_make_61 : decode b_Names_make 61 = .ok (.ifCond .ge 27, 3) := by decide +kernel
theorem d_Names_make_64 : decode b_Names_make 64 = .ok (.aload_n 0, 1) := by decide +kernel
theorem d_Names_make_65 : decode b_Names_make 65 = .ok (.getfield 41, 3) := by decide +kernel
theorem d_Names_make_68 : decode b_Names_make 68 = .ok (.istore 4, 2) := by decide +kernel
theorem d_Names_make_70 : decode b_Names_make 70 = .ok (.aload_n 0, 1) := by decide +kernel
theorem d_Names_make_71 : decode b_Names_make 71 = .ok (.getfield 11, 3) := by decide +kernel
theorem d_Names_make_74 : decode b_Names_make 74 = .ok (.iload 4, 2) := by decide +kernel
theorem d_Names_make_76 : decode b_Names_make 76 = .ok (.iload_n 1, 1) := by decide +kernel
theorem d_Names_make_77 : decode b_Names_make 77 = .ok (.iastore, 1) := by decide +kernel
theorem d_Names_make_78 : decode b_Names_make 78 = .ok (.aload_n 0, 1) := by decide +kernel
theorem d_Names_make_79 : decode b_Names_make 79 = .ok (.dup, 1) := by decide +kernel
theorem d_Names_make_80 : decode b_Names_make 80 = .ok (.getfield 41, 3) := by decide +kernel
theorem d_Names_make_83 : decode b_Names_make 83 = .ok (.iconst 1, 1) := by decide +kernel
theorem d_Names_make_84 : decode b_Names_make 84 = .ok (.iadd, 1) := by decide +kernel
theorem d_Names_make_85 : decode b_Names_make 85 = .ok (.putfield 41, 3) := by decide +kernel
theorem d_Names_make_88 : decode b_Names_make 88 = .ok (.aload_n 0, 1) := by decide +kernel
theorem d_Names_make_89 : decode b_Names_make 89 = .ok (.getfield 15, 3) := by decide +kernel
theorem d_Names_make_92 : decode b_Names_make 92 = .ok (.iload 4, 2) := by decide +kernel
theorem d_Names_make_94 : decode b_Names_make 94 = .ok (.iload_n 2, 1) := by decide +kernel
theorem d_Names_make_95 : decode b_Names_make 95 = .ok (.iastore, 1) := by decide +kernel
theorem d_Names_make_96 : decode b_Names_make 96 = .ok (.ldc 48, 2) := by decide +kernel
theorem d_Names_make_98 : decode b_Names_make 98 = .ok (.ireturn, 1) := by decide +kernel
theorem lk_Names_54 : Cond.methodLink "TurtleWorld$Names" 54 ⟨"TurtleWorld$Heap", "size", "(I)I"⟩ ∈ tw_T := tw_i7 14 (by decide +kernel) (by decide +kernel)
theorem lk_Names_57 : Cond.constant "TurtleWorld$Names" 57 (-2147483640) ∈ tw_T := tw_i7 15 (by decide +kernel) (by decide +kernel)
