theorem d_World_call_0 : decode b_World_call 0 = .ok (.aload_n 0, 1) := by decide +kernel
theorem d_World_call_1 : decode b_World_call 1 = .ok (.getfield 63, 3) := by decide +kernel
theorem d_World_call_4 : decode b_World_call 4 = .ok (.iload_n 1, 1) := by decide +kernel
theorem d_World_call_5 : decode b_World_call 5 = .ok (.invokevirtual 234, 3) := by decide +kernel
theorem d_World_call_8 : decode b_World_call 8 = .ok (.istore_n 3, 1) := by decide +kernel
theorem d_World_call_9 : decode b_World_call 9 = .ok (.iload_n 3, 1) := by decide +kernel
theorem d_World_call_10 : decode b_World_call 10 = .ok (.ifCond .lt 12, 3) := by decide +kernel
theorem d_World_call_13 : decode b_World_call 13 = .ok (.iload_n 2, 1) := by decide +kernel
theorem d_World_call_14 : decode b_World_call 14 = .ok (.ifCond .lt 8, 3) := by decide +kernel
theorem d_World_call_17 : decode b_World_call 17 = .ok (.iload_n 2, 1) := by decide +kernel
theorem d_World_call_18 : decode b_World_call 18 = .ok (.iconst 2, 1) := by decide +kernel
theorem d_World_call_19 : decode b_World_call 19 = .ok (.if_icmp .le 5, 3) := by decide +kernel
theorem d_World_call_22 : decode b_World_call 22 = .ok (.iconst (-1), 1) := by decide +kernel
theorem d_World_call_23 : decode b_World_call 23 = .ok (.ireturn, 1) := by decide +kernel
theorem d_World_call_24 : decode b_World_call 24 = .ok (.iload_n 2, 1) := by decide +kernel
theorem d_World_call_25 : decode b_World_call 25 = .ok (.ifCond .ne 13, 3) := by decide +kernel
theorem d_World_call_28 : decode b_World_call 28 = .ok (.aload_n 0, 1) := by decide +kernel
theorem d_World_call_29 : decode b_World_call 29 = .ok (.getfield 63, 3) := by decide +kernel
theorem d_World_call_32 : decode b_World_call 32 = .ok (.getfield 237, 3) := by decide +kernel
theorem d_World_call_35 : decode b_World_call 35 = .ok (.iload_n 3, 1) := by decide +kernel
theorem d_World_call_36 : decode b_World_call 36 = .ok (.iaload, 1) := by decide +kernel
theorem d_World_call_37 : decode b_World_call 37 = .ok (.ireturn, 1) := by decide +kernel
theorem d_World_call_38 : decode b_World_call 38 = .ok (.aload_n 0, 1) := by decide +kernel
theorem d_World_call_39 : decode b_World_call 39 = .ok (.getfield 63, 3) := by decide +kernel
theorem d_World_call_42 : decode b_World_call 42 = .ok (.getfield 240, 3) := by decide +kernel
theorem d_World_call_45 : decode b_World_call 45 = .ok (.iload_n 3, 1) := by decide +kernel
theorem d_World_call_46 : decode b_World_call 46 = .ok (.iaload, 1) := by decide +kernel
theorem d_World_call_47 : decode b_World_call 47 = .ok (.istore 4, 2) := by decide +kernel
theorem d_World_call_49 : decode b_World_call 49 = .ok (.aload_n 0, 1) := by decide +kernel
theorem d_World_call_50 : decode b_World_call 50 = .ok (.getfield 63, 3) := by decide +kernel
theorem d_World_call_53 : decode b_World_call 53 = .ok (.iload_n 1, 1) := by decide +kernel
theorem d_World_call_54 : decode b_World_call 54 = .ok (.iconst 1, 1) := by decide +kernel
theorem d_World_call_55 : decode b_World_call 55 = .ok (.isub, 1) := by decide +kernel
theorem d_World_call_56 : decode b_World_call 56 = .ok (.invokevirtual 234, 3) := by decide +kernel
theorem d_World_call_59 : decode b_World_call 59 = .ok (.istore 5, 2) := by decide +kernel
theorem d_World_call_61 : decode b_World_call 61 = .ok (.iload 5, 2) := by decide +kernel
theorem d_World_call_63 : decode b_World_call 63 = .ok (.ifCond .ge 13, 3) := by decide +kernel
theorem d_World_call_66 : decode b_World_call 66 = .ok (.aload_n 0, 1) := by decide +kernel
theorem d_World_call_67 : decode b_World_call 67 = .ok (.getfield 26, 3) := by decide +kernel
theorem d_World_call_70 : decode b_World_call 70 = .ok (.getfield 243, 3) := by decide +kernel
theorem d_World_call_73 : decode b_World_call 73 = .ok (.goto 13, 3) := by decide +kernel
theorem d_World_call_76 : decode b_World_call 76 = .ok (.aload_n 0, 1) := by decide +kernel
theorem d_World_call_77 : decode b_World_call 77 = .ok (.getfield 63, 3) := by decide +kernel
theorem d_World_call_80 : decode b_World_call 80 = .ok (.getfield 240, 3) := by decide +kernel
theorem d_World_call_83 : decode b_World_call 83 = .ok (.iload 5, 2) := by decide +kernel
theorem d_World_call_85 : decode b_World_call 85 = .ok (.iaload, 1) := by decide +kernel
theorem d_World_call_86 : decode b_World_call 86 = .ok (.istore 6, 2) := by decide +kernel
theorem d_World_call_88 : decode b_World_call 88 = .ok (.iload_n 2, 1) := by decide +kernel
theorem d_World_call_89 : decode b_World_call 89 = .ok (.iconst 1, 1) := by decide +kernel
theorem d_World_call_90 : decode b_World_call 90 = .ok (.if_icmp .ne 11, 3) := by decide +kernel
theorem d_World_call_93 : decode b_World_call 93 = .ok (.iload 6, 2) := by decide +kernel
theorem d_World_call_95 : decode b_World_call 95 = .ok (.iload 4, 2) := by decide +kernel
theorem d_World_call_97 : decode b_World_call 97 = .ok (.isub, 1) := by decide +kernel
theorem d_World_call_98 : decode b_World_call 98 = .ok (.goto 14, 3) := by decide +kernel
theorem d_World_call_101 : decode b_World_call 101 = .ok (.aload_n 0, 1) := by decide +kernel
theorem d_World_call_102 : decode b_World_call 102 = .ok (.getfield 26, 3) := by decide +kernel
theorem d_World_call_105 : decode b_World_call 105 = .ok (.iload 4, 2) := by decide +kernel
theorem d_World_call_107 : decode b_World_call 107 = .ok (.iload 6, 2) := by decide +kernel
theorem d_World_call_109 : decode b_World_call 109 = .ok (.invokevirtual 245, 3) := by decide +kernel
theorem d_World_call_112 : decode b_World_call 112 = .ok (.ireturn, 1) := by decide +kernel
theorem lk_World_234 : Cond.methodLink "TurtleWorld" 234 ⟨"TurtleWorld$Line", "callAt", "(I)I"⟩ ∈ tw_T := tw_i7 209 (by decide +kernel) (by decide +kernel)
theorem in_Line_callAt : Cond.instanceMethod ⟨"TurtleWorld$Line", "callAt", "(I)I"⟩ ∈ tw_T := tw_i7 21 (by decide +kernel) (by decide +kernel)
theorem sel_Line_callAt : Cond.selects "TurtleWorld$Line" ⟨"TurtleWorld$Line", "callAt", "(I)I"⟩ ⟨"TurtleWorld$Line", "callAt", "(I)I"⟩ ∈ tw_T := tw_i7 22 (by decide +kernel) (by decide +kernel)
theorem ini_Line : Cond.initialized "TurtleWorld$Line" ∈ tw_T := tw_i1 16 (by decide +kernel) (by decide +kernel)
theorem lk_World_240 : Cond.fieldLink "TurtleWorld" 240 "TurtleWorld$Line" "locals" "[I" ∈ tw_T := tw_i3 38 (by decide +kernel) (by decide +kernel)
theorem lk_World_245 : Cond.methodLink "TurtleWorld" 245 ⟨"TurtleWorld$Names", "countValues", "(II)I"⟩ ∈ tw_T := tw_i7 210 (by decide +kernel) (by decide +kernel)
theorem in_Names_countValues : Cond.instanceMethod ⟨"TurtleWorld$Names", "countValues", "(II)I"⟩ ∈ tw_T := tw_i7 211 (by decide +kernel) (by decide +kernel)
theorem sel_Names_countValues : Cond.selects "TurtleWorld$Names" ⟨"TurtleWorld$Names", "countValues", "(II)I"⟩ ⟨"TurtleWorld$Names", "countValues", "(II)I"⟩ ∈ tw_T := tw_i7 212 (by decide +kernel) (by decide +kernel)
theorem lk_World_243 : Cond.fieldLink "TurtleWorld" 243 "TurtleWorld$Names" "locals" "I" ∈ tw_T := tw_i2 17 (by decide +kernel) (by decide +kernel)
theorem lk_World_237 : Cond.fieldLink "TurtleWorld" 237 "TurtleWorld$Line" "mark" "[I" ∈ tw_T := tw_i3 30 (by decide +kernel) (by decide +kernel)
