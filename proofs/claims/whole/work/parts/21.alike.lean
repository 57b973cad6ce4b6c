theorem d_Heap_alike_0 : decode b_Heap_alike 0 = .ok (.iload_n 1, 1) := by decide +kernel
theorem d_Heap_alike_1 : decode b_Heap_alike 1 = .ok (.iload_n 2, 1) := by decide +kernel
theorem d_Heap_alike_2 : decode b_Heap_alike 2 = .ok (.if_icmp .ne 5, 3) := by decide +kernel
theorem d_Heap_alike_5 : decode b_Heap_alike 5 = .ok (.iconst 1, 1) := by decide +kernel
theorem d_Heap_alike_6 : decode b_Heap_alike 6 = .ok (.ireturn, 1) := by decide +kernel
theorem d_Heap_alike_7 : decode b_Heap_alike 7 = .ok (.iload_n 1, 1) := by decide +kernel
theorem d_Heap_alike_8 : decode b_Heap_alike 8 = .ok (.invokestatic 129, 3) := by decide +kernel
theorem d_Heap_alike_11 : decode b_Heap_alike 11 = .ok (.ifCond .eq 17, 3) := by decide +kernel
theorem d_Heap_alike_14 : decode b_Heap_alike 14 = .ok (.iload_n 2, 1) := by decide +kernel
theorem d_Heap_alike_15 : decode b_Heap_alike 15 = .ok (.invokestatic 129, 3) := by decide +kernel
theorem d_Heap_alike_18 : decode b_Heap_alike 18 = .ok (.ifCond .eq 10, 3) := by decide +kernel
theorem d_Heap_alike_21 : decode b_Heap_alike 21 = .ok (.aload_n 0, 1) := by decide +kernel
theorem d_Heap_alike_22 : decode b_Heap_alike 22 = .ok (.iload_n 1, 1) := by decide +kernel
theorem d_Heap_alike_23 : decode b_Heap_alike 23 = .ok (.iload_n 2, 1) := by decide +kernel
theorem d_Heap_alike_24 : decode b_Heap_alike 24 = .ok (.invokevirtual 139, 3) := by decide +kernel
theorem d_Heap_alike_27 : decode b_Heap_alike 27 = .ok (.ireturn, 1) := by decide +kernel
theorem d_Heap_alike_28 : decode b_Heap_alike 28 = .ok (.iload_n 1, 1) := by decide +kernel
theorem d_Heap_alike_29 : decode b_Heap_alike 29 = .ok (.invokestatic 143, 3) := by decide +kernel
theorem d_Heap_alike_32 : decode b_Heap_alike 32 = .ok (.ifCond .eq 40, 3) := by decide +kernel
theorem d_Heap_alike_35 : decode b_Heap_alike 35 = .ok (.iload_n 2, 1) := by decide +kernel
theorem d_Heap_alike_36 : decode b_Heap_alike 36 = .ok (.invokestatic 143, 3) := by decide +kernel
theorem d_Heap_alike_39 : decode b_Heap_alike 39 = .ok (.ifCond .eq 33, 3) := by decide +kernel
theorem d_Heap_alike_42 : decode b_Heap_alike 42 = .ok (.aload_n 0, 1) := by decide +kernel
theorem d_Heap_alike_43 : decode b_Heap_alike 43 = .ok (.iload_n 1, 1) := by decide +kernel
theorem d_Heap_alike_44 : decode b_Heap_alike 44 = .ok (.invokevirtual 125, 3) := by decide +kernel
theorem d_Heap_alike_47 : decode b_Heap_alike 47 = .ok (.aload_n 0, 1) := by decide +kernel
theorem d_Heap_alike_48 : decode b_Heap_alike 48 = .ok (.iload_n 2, 1) := by decide +kernel
theorem d_Heap_alike_49 : decode b_Heap_alike 49 = .ok (.invokevirtual 125, 3) := by decide +kernel
theorem d_Heap_alike_52 : decode b_Heap_alike 52 = .ok (.if_icmp .ne 20, 3) := by decide +kernel
theorem d_Heap_alike_55 : decode b_Heap_alike 55 = .ok (.aload_n 0, 1) := by decide +kernel
theorem d_Heap_alike_56 : decode b_Heap_alike 56 = .ok (.iload_n 1, 1) := by decide +kernel
theorem d_Heap_alike_57 : decode b_Heap_alike 57 = .ok (.invokevirtual 119, 3) := by decide +kernel
theorem d_Heap_alike_60 : decode b_Heap_alike 60 = .ok (.aload_n 0, 1) := by decide +kernel
theorem d_Heap_alike_61 : decode b_Heap_alike 61 = .ok (.iload_n 2, 1) := by decide +kernel
theorem d_Heap_alike_62 : decode b_Heap_alike 62 = .ok (.invokevirtual 119, 3) := by decide +kernel
theorem d_Heap_alike_65 : decode b_Heap_alike 65 = .ok (.if_icmp .ne 7, 3) := by decide +kernel
theorem d_Heap_alike_68 : decode b_Heap_alike 68 = .ok (.iconst 1, 1) := by decide +kernel
theorem d_Heap_alike_69 : decode b_Heap_alike 69 = .ok (.goto 4, 3) := by decide +kernel
theorem d_Heap_alike_72 : decode b_Heap_alike 72 = .ok (.iconst 0, 1) := by decide +kernel
theorem d_Heap_alike_73 : decode b_Heap_alike 73 = .ok (.ireturn, 1) := by decide +kernel
theorem lk_Heap_129 : Cond.methodLink "TurtleWorld$Heap" 129 ⟨"TurtleWorld$Heap", "isWord", "(I)Z"⟩ ∈ tw_T := tw_i6 178 (by decide +kernel) (by decide +kernel)
theorem st_Heap_isWord : Cond.static ⟨"TurtleWorld$Heap", "isWord", "(I)Z"⟩ ∈ tw_T := tw_i4 106 (by decide +kernel) (by decide +kernel)
theorem lk_Heap_143 : Cond.methodLink "TurtleWorld$Heap" 143 ⟨"TurtleWorld$Heap", "isList", "(I)Z"⟩ ∈ tw_T := tw_i4 177 (by decide +kernel) (by decide +kernel)
theorem st_Heap_isList : Cond.static ⟨"TurtleWorld$Heap", "isList", "(I)Z"⟩ ∈ tw_T := tw_i4 178 (by decide +kernel) (by decide +kernel)
theorem lk_Heap_119 : Cond.methodLink "TurtleWorld$Heap" 119 ⟨"TurtleWorld$Heap", "size", "(I)I"⟩ ∈ tw_T := tw_i4 63 (by decide +kernel) (by decide +kernel)
theorem in_Heap_size : Cond.instanceMethod ⟨"TurtleWorld$Heap", "size", "(I)I"⟩ ∈ tw_T := tw_i4 64 (by decide +kernel) (by decide +kernel)
theorem sel_Heap_size : Cond.selects "TurtleWorld$Heap" ⟨"TurtleWorld$Heap", "size", "(I)I"⟩ ⟨"TurtleWorld$Heap", "size", "(I)I"⟩ ∈ tw_T := tw_i4 65 (by decide +kernel) (by decide +kernel)
theorem lk_Heap_139 : Cond.methodLink "TurtleWorld$Heap" 139 ⟨"TurtleWorld$Heap", "sameWord", "(II)Z"⟩ ∈ tw_T := tw_i6 179 (by decide +kernel) (by decide +kernel)
