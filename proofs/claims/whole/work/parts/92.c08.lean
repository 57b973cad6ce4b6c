theorem hd_Turtles_turnTo : y_Turtles_turnTo.cls ≠ "java/lang/invoke/MethodHandle" ∧ y_Turtles_turnTo.cls ≠ "java/lang/invoke/VarHandle" ∧ (parseMethodDescriptor y_Turtles_turnTo.desc).map (fun d => d.parameters.length) = some 2 := by decide +kernel
theorem hd_Turtles_putAt : y_Turtles_putAt.cls ≠ "java/lang/invoke/MethodHandle" ∧ y_Turtles_putAt.cls ≠ "java/lang/invoke/VarHandle" ∧ (parseMethodDescriptor y_Turtles_putAt.desc).map (fun d => d.parameters.length) = some 2 := by decide +kernel
theorem hd_Turtles_atOnePlace : y_Turtles_atOnePlace.cls ≠ "java/lang/invoke/MethodHandle" ∧ y_Turtles_atOnePlace.cls ≠ "java/lang/invoke/VarHandle" ∧ (parseMethodDescriptor y_Turtles_atOnePlace.desc).map (fun d => d.parameters.length) = some 2 := by decide +kernel
theorem d_Deeds_without_0 : decode b_Deeds_without 0 = .ok (.aload_n 0, 1) := by decide +kernel
theorem d_Deeds_without_1 : decode b_Deeds_without 1 = .ok (.getfield 15, 3) := by decide +kernel
theorem d_Deeds_without_4 : decode b_Deeds_without 4 = .ok (.iload_n 1, 1) := by decide +kernel
theorem d_Deeds_without_5 : decode b_Deeds_without 5 = .ok (.invokevirtual 173, 3) := by decide +kernel
theorem d_Deeds_without_8 : decode b_Deeds_without 8 = .ok (.iconst 1, 1) := by decide +kernel
theorem d_Deeds_without_9 : decode b_Deeds_without 9 = .ok (.isub, 1) := by decide +kernel
theorem d_Deeds_without_10 : decode b_Deeds_without 10 = .ok (.istore 4, 2) := by decide +kernel
theorem d_Deeds_without_12 : decode b_Deeds_without 12 = .ok (.iload 4, 2) := by decide +kernel
theorem d_Deeds_without_14 : decode b_Deeds_without 14 = .ok (.ifCond .ge 6, 3) := by decide +kernel
theorem d_Deeds_without_17 : decode b_Deeds_without 17 = .ok (.ldc 146, 2) := by decide +kernel
theorem d_Deeds_without_19 : decode b_Deeds_without 19 = .ok (.ireturn, 1) := by decide +kernel
theorem d_Deeds_without_20 : decode b_Deeds_without 20 = .ok (.aload_n 0, 1) := by decide +kernel
theorem d_Deeds_without_21 : decode b_Deeds_without 21 = .ok (.iload 4, 2) := by decide +kernel
theorem d_Deeds_without_23 : decode b_Deeds_without 23 = .ok (.aload_n 0, 1) := by decide +kernel
theorem d_Deeds_without_24 : decode b_Deeds_without 24 = .ok (.getfield 15, 3) := by decide +kernel
theorem d_Deeds_without_27 : decode b_Deeds_without 27 = .ok (.iload_n 1, 1) := by decide +kernel
theorem d_Deeds_without_28 : decode b_Deeds_without 28 = .ok (.invokevirtual 207, 3) := by decide +kernel
theorem d_Deeds_without_31 : decode b_Deeds_without 31 = .ok (.aload_n 0, 1) := by decide +kernel
theorem d_Deeds_without_32 : decode b_Deeds_without 32 = .ok (.getfield 15, 3) := by decide +kernel
theorem d_Deeds_without_35 : decode b_Deeds_without 35 = .ok (.aload_n 0, 1) := by decide +kernel
theorem d_Deeds_without_36 : decode b_Deeds_without 36 = .ok (.getfield 15, 3) := by decide +kernel
theorem d_Deeds_without_39 : decode b_Deeds_without 39 = .ok (.iload_n 1, 1) := by decide +kernel
theorem d_Deeds_without_40 : decode b_Deeds_without 40 = .ok (.iload_n 2, 1) := by decide +kernel
theorem d_Deeds_without_41 : decode b_Deeds_without 41 = .ok (.invokevirtual 196, 3) := by decide +kernel
theorem d_Deeds_without_44 : decode b_Deeds_without 44 = .ok (.invokevirtual 207, 3) := by decide +kernel
theorem d_Deeds_without_47 : decode b_Deeds_without 47 = .ok (.isub, 1) := by decide +kernel
theorem d_Deeds_without_48 : decode b_Deeds_without 48 = .ok (.invokevirtual 210, 3) := by decide +kernel
theorem d_Deeds_without_51 : decode b_Deeds_without 51 = .ok (.istore 5, 2) := by decide +kernel
theorem d_Deeds_without_53 : decode b_Deeds_without 53 = .ok (.iconst 0, 1) := by decide +kernel
theorem d_Deeds_without_54 : decode b_Deeds_without 54 = .ok (.istore 6, 2) := by decide +kernel
theorem d_Deeds_without_56 : decode b_Deeds_without 56 = .ok (.iload 6, 2) := by decide +kernel
theorem d_Deeds_without_58 : decode b_Deeds_without 58 = .ok (.iload 4, 2) := by decide +kernel
theorem d_Deeds_without_60 : decode b_Deeds_without 60 = .ok (.if_icmp .ge 39, 3) := by decide +kernel
theorem d_Deeds_without_63 : decode b_Deeds_without 63 = .ok (.iload 5, 2) := by decide +kernel
theorem d_Deeds_without_65 : decode b_Deeds_without 65 = .ok (.ldc 202, 2) := by decide +kernel
theorem d_Deeds_without_67 : decode b_Deeds_without 67 = .ok (.if_icmp .eq 32, 3) := by decide +kernel
theorem d_Deeds_without_70 : decode b_Deeds_without 70 = .ok (.aload_n 0, 1) := by decide +kernel
theorem d_Deeds_without_71 : decode b_Deeds_without 71 = .ok (.getfield 15, 3) := by decide +kernel
theorem d_Deeds_without_74 : decode b_Deeds_without 74 = .ok (.iload 5, 2) := by decide +kernel
theorem d_Deeds_without_76 : decode b_Deeds_without 76 = .ok (.iload 6, 2) := by decide +kernel
theorem d_Deeds_without_78 : decode b_Deeds_without 78 = .ok (.aload_n 0, 1) := by decide +kernel
theorem d_Deeds_without_79 : decode b_Deeds_without 79 = .ok (.getfield 15, 3) := by decide +kernel
theorem d_Deeds_without_82 : decode b_Deeds_without 82 = .ok (.iload_n 1, 1) := by decide +kernel
theorem d_Deeds_without_83 : decode b_Deeds_without 83 = .ok (.iload_n 3, 1) := by decide +kernel
theorem d_Deeds_without_84 : decode b_Deeds_without 84 = .ok (.iload 6, 2) := by decide +kernel
theorem d_Deeds_without_86 : decode b_Deeds_without 86 = .ok (.iadd, 1) := by decide +kernel
theorem d_Deeds_without_87 : decode b_Deeds_without 87 = .ok (.invokevirtual 196, 3) := by decide +kernel
theorem d_Deeds_without_90 : decode b_Deeds_without 90 = .ok (.invokevirtual 213, 3) := by decide +kernel
theorem d_Deeds_without_93 : decode b_Deeds_without 93 = .ok (.iinc 6 1, 3) := by decide +kernel
theorem d_Deeds_without_96 : decode b_Deeds_without 96 = .ok (.goto (-40), 3) := by decide +kernel
theorem d_Deeds_without_99 : decode b_Deeds_without 99 = .ok (.iload 5, 2) := by decide +kernel
theorem d_Deeds_without_101 : decode b_Deeds_without 101 = .ok (.ireturn, 1) := by decide +kernel
theorem lk_Deeds_207 : Cond.methodLink "TurtleWorld$Deeds" 207 ⟨"TurtleWorld$Heap", "size", "(I)I"⟩ ∈ tw_T := tw_i6 191 (by decide +kernel) (by decide +kernel)
theorem lk_Deeds_210 : Cond.methodLink "TurtleWorld$Deeds" 210 ⟨"TurtleWorld$Deeds", "madeList", "(II)I"⟩ ∈ tw_T := tw_i6 192 (by decide +kernel) (by decide +kernel)
theorem hd_Deeds_madeList : y_Deeds_madeList.cls ≠ "java/lang/invoke/MethodHandle" ∧ y_Deeds_madeList.cls ≠ "java/lang/invoke/VarHandle" ∧ (parseMethodDescriptor y_Deeds_madeList.desc).map (fun d => d.parameters.length) = some 2 := by decide +kernel
theorem in_Deeds_madeList : Cond.instanceMethod ⟨"TurtleWorld$Deeds", "madeList", "(II)I"⟩ ∈ tw_T := tw_i6 194 (by decide +kernel) (by decide +kernel)
theorem sel_Deeds_madeList : Cond.selects "TurtleWorld$Deeds" ⟨"TurtleWorld$Deeds", "madeList", "(II)I"⟩ ⟨"TurtleWorld$Deeds", "madeList", "(II)I"⟩ ∈ tw_T := tw_inS 64 (by decide +kernel) (by decide +kernel)
theorem lk_Deeds_213 : Cond.methodLink "TurtleWorld$Deeds" 213 ⟨"TurtleWorld$Heap", "putMember", "(III)V"⟩ ∈ tw_T := tw_i6 199 (by decide +kernel) (by decide +kernel)
theorem hd_Heap_putMember : y_Heap_putMember.cls ≠ "java/lang/invoke/MethodHandle" ∧ y_Heap_putMember.cls ≠ "java/lang/invoke/VarHandle" ∧ (parseMethodDescriptor y_Heap_putMember.desc).map (fun d => d.parameters.length) = some 3 := by decide +kernel
theorem in_Heap_putMember : Cond.instanceMethod ⟨"TurtleWorld$Heap", "putMember", "(III)V"⟩ ∈ tw_T := tw_i6 200 (by decide +kernel) (by decide +kernel)
theorem sel_Heap_putMember : Cond.selects "TurtleWorld$Heap" ⟨"TurtleWorld$Heap", "putMember", "(III)V"⟩ ⟨"TurtleWorld$Heap", "putMember", "(III)V"⟩ ∈ tw_T := tw_i6 201 (by decide +kernel) (by decide +kernel)
theorem d_Deeds_join_0 : decode b_Deeds_join 0 = .ok (.iload_n 2, 1) := by decide +kernel
theorem d_Deeds_join_1 : decode b_Deeds_join 1 = .ok (.ifCond .eq 7, 3) := by decide +kernel
theorem d_Deeds_join_4 : decode b_Deeds_join 4 = .ok (.iconst 1, 1) := by decide +kernel
theorem d_Deeds_join_5 : decode b_Deeds_join 5 = .ok (.goto 11, 3) := by decide +kernel
theorem d_Deeds_join_8 : decode b_Deeds_join 8 = .ok (.aload_n 0, 1) := by decide +kernel
theorem d_Deeds_join_9 : decode b_Deeds_join 9 = .ok (.getfield 15, 3) := by decide +kernel
theorem d_Deeds_join_12 : decode b_Deeds_join 12 = .ok (.iload_n 1, 1) := by decide +kernel
theorem d_Deeds_join_13 : decode b_Deeds_join 13 = .ok (.invokevirtual 173, 3) := by decide +kernel
theorem d_Deeds_join_16 : decode b_Deeds_join 16 = .ok (.istore 5, 2) := by decide +kernel
theorem d_Deeds_join_18 : decode b_Deeds_join 18 = .ok (.iload 4, 2) := by decide +kernel
theorem d_Deeds_join_20 : decode b_Deeds_join 20 = .ok (.ifCond .eq 7, 3) := by decide +kernel
theorem d_Deeds_join_23 : decode b_Deeds_join 23 = .ok (.iconst 1, 1) := by decide +kernel
theorem d_Deeds_join_24 : decode b_Deeds_join 24 = .ok (.goto 11, 3) := by decide +kernel
theorem d_Deeds_join_27 : decode b_Deeds_join 27 = .ok (.aload_n 0, 1) := by decide +kernel
theorem d_Deeds_join_28 : decode b_Deeds_join 28 = .ok (.getfield 15, 3) := by decide +kernel
theorem d_Deeds_join_31 : decode b_Deeds_join 31 = .ok (.iload_n 3, 1) := by decide +kernel
theorem d_Deeds_join_32 : decode b_Deeds_join 32 = .ok (.invokevirtual 173, 3) := by decide +kernel
theorem d_Deeds_join_35 : decode b_Deeds_join 35 = .ok (.istore 6, 2) := by decide +kernel
theorem d_Deeds_join_37 : decode b_Deeds_join 37 = .ok (.iconst 1, 1) := by decide +kernel
theorem d_Deeds_join_38 : decode b_Deeds_join 38 = .ok (.aload_n 0, 1) := by decide +kernel
theorem d_Deeds_join_39 : decode b_Deeds_join 39 = .ok (.getfield 15, 3) := by decide +kernel
theorem d_Deeds_join_42 : decode b_Deeds_join 42 = .ok (.iload_n 1, 1) := by decide +kernel
theorem d_Deeds_join_43 : decode b_Deeds_join 43 = .ok (.invokevirtual 207, 3) := by decide +kernel
theorem d_Deeds_join_46 : decode b_Deeds_join 46 = .ok (.iadd, 1) := by decide +kernel
theorem d_Deeds_join_47 : decode b_Deeds_join 47 = .ok (.iload_n 2, 1) := by decide +kernel
theorem d_Deeds_join_48 : decode b_Deeds_join 48 = .ok (.ifCond .eq 7, 3) := by decide +kernel
theorem d_Deeds_join_51 : decode b_Deeds_join 51 = .ok (.iconst 0, 1) := by decide +kernel
theorem d_Deeds_join_52 : decode b_Deeds_join 52 = .ok (.goto 4, 3) := by decide +kernel
theorem d_Deeds_join_55 : decode b_Deeds_join 55 = .ok (.iconst 1, 1) := by decide +kernel
theorem d_Deeds_join_56 : decode b_Deeds_join 56 = .ok (.isub, 1) := by decide +kernel
theorem d_Deeds_join_57 : decode b_Deeds_join 57 = .ok (.aload_n 0, 1) := by decide +kernel
theorem d_Deeds_join_58 : decode b_Deeds_join 58 = .ok (.getfield 15, 3) := by decide +kernel
theorem d_Deeds_join_61 : decode b_Deeds_join 61 = .ok (.iload_n 3, 1) := by decide +kernel
theorem d_Deeds_join_62 : decode b_Deeds_join 62 = .ok (.invokevirtual 207, 3) := by decide +kernel
theorem d_Deeds_join_65 : decode b_Deeds_join 65 = .ok (.iadd, 1) := by decide +kernel
theorem d_Deeds_join_66 : decode b_Deeds_join 66 = .ok (.iload 4, 2) := by decide +kernel
theorem d_Deeds_join_68 : decode b_Deeds_join 68 = .ok (.ifCond .eq 7, 3) := by decide +kernel
theorem d_Deeds_join_71 : decode b_Deeds_join 71 = .ok (.iconst 0, 1) := by decide +kernel
theorem d_Deeds_join_72 : decode b_Deeds_join 72 = .ok (.goto 4, 3) := by decide +kernel
theorem d_Deeds_join_75 : decode b_Deeds_join 75 = .ok (.iconst 1, 1) := by decide +kernel
theorem d_Deeds_join_76 : decode b_Deeds_join 76 = .ok (.isub, 1) := by decide +kernel
theorem d_Deeds_join_77 : decode b_Deeds_join 77 = .ok (.istore 7, 2) := by decide +kernel
theorem d_Deeds_join_79 : decode b_Deeds_join 79 = .ok (.aload_n 0, 1) := by decide +kernel
theorem d_Deeds_join_80 : decode b_Deeds_join 80 = .ok (.iload 5, 2) := by decide +kernel
theorem d_Deeds_join_82 : decode b_Deeds_join 82 = .ok (.iload 6, 2) := by decide +kernel
theorem d_Deeds_join_84 : decode b_Deeds_join 84 = .ok (.iadd, 1) := by decide +kernel
theorem d_Deeds_join_85 : decode b_Deeds_join 85 = .ok (.iload 7, 2) := by decide +kernel
theorem d_Deeds_join_87 : decode b_Deeds_join 87 = .ok (.invokevirtual 210, 3) := by decide +kernel
theorem d_Deeds_join_90 : decode b_Deeds_join 90 = .ok (.istore 8, 2) := by decide +kernel
theorem d_Deeds_join_92 : decode b_Deeds_join 92 = .ok (.iload 8, 2) := by decide +kernel
theorem d_Deeds_join_94 : decode b_Deeds_join 94 = .ok (.ldc 202, 2) := by decide +kernel
theorem d_Deeds_join_96 : decode b_Deeds_join 96 = .ok (.if_icmp .ne 6, 3) := by decide +kernel
theorem d_Deeds_join_99 : decode b_Deeds_join 99 = .ok (.iload 8, 2) := by decide +kernel
theorem d_Deeds_join_101 : decode b_Deeds_join 101 = .ok (.ireturn, 1) := by decide +kernel
theorem d_Deeds_join_102 : decode b_Deeds_join 102 = .ok (.iconst 0, 1) := by decide +kernel
theorem d_Deeds_join_103 : decode b_Deeds_join 103 = .ok (.istore 9, 2) := by decide +kernel
theorem d_Deeds_join_105 : decode b_Deeds_join 105 = .ok (.iload 9, 2) := by decide +kernel
theorem d_Deeds_join_107 : decode b_Deeds_join 107 = .ok (.iload 5, 2) := by decide +kernel
theorem d_Deeds_join_109 : decode b_Deeds_join 109 = .ok (.if_icmp .ge 38, 3) := by decide +kernel
theorem d_Deeds_join_112 : decode b_Deeds_join 112 = .ok (.aload_n 0, 1) := by decide +kernel
theorem d_Deeds_join_113 : decode b_Deeds_join 113 = .ok (.getfield 15, 3) := by decide +kernel
theorem d_Deeds_join_116 : decode b_Deeds_join 116 = .ok (.iload 8, 2) := by decide +kernel
theorem d_Deeds_join_118 : decode b_Deeds_join 118 = .ok (.iload 9, 2) := by decide +kernel
theorem d_Deeds_join_120 : decode b_Deeds_join 120 = .ok (.iload_n 2, 1) := by decide +kernel
theorem d_Deeds_join_121 : decode b_Deeds_join 121 = .ok (.ifCond .eq 7, 3) := by decide +kernel
theorem d_Deeds_join_124 : decode b_Deeds_join 124 = .ok (.iload_n 1, 1) := by decide +kernel
theorem d_Deeds_join_125 : decode b_Deeds_join 125 = .ok (.goto 13, 3) := by decide +kernel
theorem d_Deeds_join_128 : decode b_Deeds_join 128 = .ok (.aload_n 0, 1) := by decide +kernel
theorem d_Deeds_join_129 : decode b_Deeds_join 129 = .ok (.getfield 15, 3) := by decide +kernel
theorem d_Deeds_join_132 : decode b_Deeds_join 132 = .ok (.iload_n 1, 1) := by decide +kernel
theorem d_Deeds_join_133 : decode b_Deeds_join 133 = .ok (.iload 9, 2) := by decide +kernel
theorem d_Deeds_join_135 : decode b_Deeds_join 135 = .ok (.invokevirtual 196, 3) := by decide +kernel
theorem d_Deeds_join_138 : decode b_Deeds_join 138 = .ok (.invokevirtual 213, 3) := by decide +kernel
theorem d_Deeds_join_141 : decode b_Deeds_join 141 = .ok (.iinc 9 1, 3) := by decide +kernel
theorem d_Deeds_join_144 : decode b_Deeds_join 144 = .ok (.goto (-39), 3) := by decide +kernel
theorem d_Deeds_join_147 : decode b_Deeds_join 147 = .ok (.iconst 0, 1) := by decide +kernel
theorem d_Deeds_join_148 : decode b_Deeds_join 148 = .ok (.istore 9, 2) := by decide +kernel
theorem d_Deeds_join_150 : decode b_Deeds_join 150 = .ok (.iload 9, 2) := by decide +kernel
theorem d_Deeds_join_152 : decode b_Deeds_join 152 = .ok (.iload 6, 2) := by decide +kernel
theorem d_Deeds_join_154 : decode b_Deeds_join 154 = .ok (.if_icmp .ge 42, 3) := by decide +kernel
theorem d_Deeds_join_157 : decode b_Deeds_join 157 = .ok (.aload_n 0, 1) := by decide +kernel
theorem d_Deeds_join_158 : decode b_Deeds_join 158 = .ok (.getfield 15, 3) := by decide +kernel
theorem d_Deeds_join_161 : decode b_Deeds_join 161 = .ok (.iload 8, 2) := by decide +kernel
theorem d_Deeds_join_163 : decode b_Deeds_join 163 = .ok (.iload 5, 2) := by decide +kernel
theorem d_Deeds_join_165 : decode b_Deeds_join 165 = .ok (.iload 9, 2) := by decide +kernel
theorem d_Deeds_join_167 : decode b_Deeds_join 167 = .ok (.iadd, 1) := by decide +kernel
theorem d_Deeds_join_168 : decode b_Deeds_join 168 = .ok (.iload 4, 2) := by decide +kernel
theorem d_Deeds_join_170 : decode b_Deeds_join 170 = .ok (.ifCond .eq 7, 3) := by decide +kernel
theorem d_Deeds_join_173 : decode b_Deeds_join 173 = .ok (.iload_n 3, 1) := by decide +kernel
theorem d_Deeds_join_174 : decode b_Deeds_join 174 = .ok (.goto 13, 3) := by decide +kernel
theorem d_Deeds_join_177 : decode b_Deeds_join 177 = .ok (.aload_n 0, 1) := by decide +kernel
theorem d_Deeds_join_178 : decode b_Deeds_join 178 = .ok (.getfield 15, 3) := by decide +kernel
theorem d_Deeds_join_181 : decode b_Deeds_join 181 = .ok (.iload_n 3, 1) := by decide +kernel
theorem d_Deeds_join_182 : decode b_Deeds_join 182 = .ok (.iload 9, 2) := by decide +kernel
theorem d_Deeds_join_184 : decode b_Deeds_join 184 = .ok (.invokevirtual 196, 3) := by decide +kernel
theorem d_Deeds_join_187 : decode b_Deeds_join 187 = .ok (.invokevirtual 213, 3) := by decide +kernel
theorem d_Deeds_join_190 : decode b_Deeds_join 190 = .ok (.iinc 9 1, 3) := by decide +kernel
theorem d_Deeds_join_193 : decode b_Deeds_join 193 = .ok (.goto (-43), 3) := by decide +kernel
theorem d_Deeds_join_196 : decode b_Deeds_join 196 = .ok (.iload 8, 2) := by decide +kernel
theorem d_Deeds_join_198 : decode b_Deeds_join 198 = .ok (.ireturn, 1) := by decide +kernel
theorem d_Deeds_isMember_0 : decode b_Deeds_isMember 0 = .ok (.aload_n 0, 1) := by decide +kernel
theorem d_Deeds_isMember_1 : decode b_Deeds_isMember 1 = .ok (.getfield 15, 3) := by decide +kernel
theorem d_Deeds_isMember_4 : decode b_Deeds_isMember 4 = .ok (.iload_n 2, 1) := by decide +kernel
theorem d_Deeds_isMember_5 : decode b_Deeds_isMember 5 = .ok (.invokevirtual 173, 3) := by decide +kernel
theorem d_Deeds_isMember_8 : decode b_Deeds_isMember 8 = .ok (.istore_n 3, 1) := by decide +kernel
theorem d_Deeds_isMember_9 : decode b_Deeds_isMember 9 = .ok (.iconst 0, 1) := by decide +kernel
theorem d_Deeds_isMember_10 : decode b_Deeds_isMember 10 = .ok (.istore 4, 2) := by decide +kernel
theorem d_Deeds_isMember_12 : decode b_Deeds_isMember 12 = .ok (.iload 4, 2) := by decide +kernel
theorem d_Deeds_isMember_14 : decode b_Deeds_isMember 14 = .ok (.iload_n 3, 1) := by decide +kernel
theorem d_Deeds_isMember_15 : decode b_Deeds_isMember 15 = .ok (.if_icmp .ge 32, 3) := by decide +kernel
theorem d_Deeds_isMember_18 : decode b_Deeds_isMember 18 = .ok (.aload_n 0, 1) := by decide +kernel
theorem d_Deeds_isMember_19 : decode b_Deeds_isMember 19 = .ok (.getfield 15, 3) := by decide +kernel
theorem d_Deeds_isMember_22 : decode b_Deeds_isMember 22 = .ok (.iload_n 1, 1) := by decide +kernel
theorem d_Deeds_isMember_23 : decode b_Deeds_isMember 23 = .ok (.aload_n 0, 1) := by decide +kernel
theorem d_Deeds_isMember_24 : decode b_Deeds_isMember 24 = .ok (.getfield 15, 3) := by decide +kernel
theorem d_Deeds_isMember_27 : decode b_Deeds_isMember 27 = .ok (.iload_n 2, 1) := by decide +kernel
theorem d_Deeds_isMember_28 : decode b_Deeds_isMember 28 = .ok (.iload 4, 2) := by decide +kernel
theorem d_Deeds_isMember_30 : decode b_Deeds_isMember 30 = .ok (.invokevirtual 196, 3) := by decide +kernel
theorem d_Deeds_isMember_33 : decode b_Deeds_isMember 33 = .ok (.invokevirtual 170, 3) := by decide +kernel
theorem d_Deeds_isMember_36 : decode b_Deeds_isMember 36 = .ok (.ifCond .eq 5, 3) := by decide +kernel
theorem d_Deeds_isMember_39 : decode b_Deeds_isMember 39 = .ok (.iconst 1, 1) := by decide +kernel
theorem d_Deeds_isMember_40 : decode b_Deeds_isMember 40 = .ok (.ireturn, 1) := by decide +kernel
theorem d_Deeds_isMember_41 : decode b_Deeds_isMember 41 = .ok (.iinc 4 1, 3) := by decide +kernel
theorem d_Deeds_isMember_44 : decode b_Deeds_isMember 44 = .ok (.goto (-32), 3) := by decide +kernel
theorem d_Deeds_isMember_47 : decode b_Deeds_isMember 47 = .ok (.iconst 0, 1) := by decide +kernel
theorem d_Deeds_isMember_48 : decode b_Deeds_isMember 48 = .ok (.ireturn, 1) := by decide +kernel
theorem lk_Deeds_170 : Cond.methodLink "TurtleWorld$Deeds" 170 ⟨"TurtleWorld$Heap", "equal", "(II)Z"⟩ ∈ tw_T := tw_i6 170 (by decide +kernel) (by decide +kernel)
theorem hd_Heap_equal : y_Heap_equal.cls ≠ "java/lang/invoke/MethodHandle" ∧ y_Heap_equal.cls ≠ "java/lang/invoke/VarHandle" ∧ (parseMethodDescriptor y_Heap_equal.desc).map (fun d => d.parameters.length) = some 2 := by decide +kernel
theorem in_Heap_equal : Cond.instanceMethod ⟨"TurtleWorld$Heap", "equal", "(II)Z"⟩ ∈ tw_T := tw_i6 171 (by decide +kernel) (by decide +kernel)
theorem sel_Heap_equal : Cond.selects "TurtleWorld$Heap" ⟨"TurtleWorld$Heap", "equal", "(II)Z"⟩ ⟨"TurtleWorld$Heap", "equal", "(II)Z"⟩ ∈ tw_T := tw_i6 172 (by decide +kernel) (by decide +kernel)
theorem d_Deeds_reverse_0 : decode b_Deeds_reverse 0 = .ok (.aload_n 0, 1) := by decide +kernel
theorem d_Deeds_reverse_1 : decode b_Deeds_reverse 1 = .ok (.getfield 15, 3) := by decide +kernel
theorem d_Deeds_reverse_4 : decode b_Deeds_reverse 4 = .ok (.iload_n 1, 1) := by decide +kernel
theorem d_Deeds_reverse_5 : decode b_Deeds_reverse 5 = .ok (.invokevirtual 173, 3) := by decide +kernel
theorem d_Deeds_reverse_8 : decode b_Deeds_reverse 8 = .ok (.istore_n 2, 1) := by decide +kernel
theorem d_Deeds_reverse_9 : decode b_Deeds_reverse 9 = .ok (.aload_n 0, 1) := by decide +kernel
theorem d_Deeds_reverse_10 : decode b_Deeds_reverse 10 = .ok (.iload_n 2, 1) := by decide +kernel
theorem d_Deeds_reverse_11 : decode b_Deeds_reverse 11 = .ok (.aload_n 0, 1) := by decide +kernel
theorem d_Deeds_reverse_12 : decode b_Deeds_reverse 12 = .ok (.getfield 15, 3) := by decide +kernel
theorem d_Deeds_reverse_15 : decode b_Deeds_reverse 15 = .ok (.iload_n 1, 1) := by decide +kernel
theorem d_Deeds_reverse_16 : decode b_Deeds_reverse 16 = .ok (.invokevirtual 207, 3) := by decide +kernel
theorem d_Deeds_reverse_19 : decode b_Deeds_reverse 19 = .ok (.invokevirtual 210, 3) := by decide +kernel
theorem d_Deeds_reverse_22 : decode b_Deeds_reverse 22 = .ok (.istore_n 3, 1) := by decide +kernel
theorem d_Deeds_reverse_23 : decode b_Deeds_reverse 23 = .ok (.iconst 0, 1) := by decide +kernel
theorem d_Deeds_reverse_24 : decode b_Deeds_reverse 24 = .ok (.istore 4, 2) := by decide +kernel
theorem d_Deeds_reverse_26 : decode b_Deeds_reverse 26 = .ok (.iload 4, 2) := by decide +kernel
theorem d_Deeds_reverse_28 : decode b_Deeds_reverse 28 = .ok (.iload_n 2, 1) := by decide +kernel
theorem d_Deeds_reverse_29 : decode b_Deeds_reverse 29 = .ok (.if_icmp .ge 39, 3) := by decide +kernel
theorem d_Deeds_reverse_32 : decode b_Deeds_reverse 32 = .ok (.iload_n 3, 1) := by decide +kernel
theorem d_Deeds_reverse_33 : decode b_Deeds_reverse 33 = .ok (.ldc 202, 2) := by decide +kernel
theorem d_Deeds_reverse_35 : decode b_Deeds_reverse 35 = .ok (.if_icmp .eq 33, 3) := by decide +kernel
theorem d_Deeds_reverse_38 : decode b_Deeds_reverse 38 = .ok (.aload_n 0, 1) := by decide +kernel
theorem d_Deeds_reverse_39 : decode b_Deeds_reverse 39 = .ok (.getfield 15, 3) := by decide +kernel
theorem d_Deeds_reverse_42 : decode b_Deeds_reverse 42 = .ok (.iload_n 3, 1) := by decide +kernel
theorem d_Deeds_reverse_43 : decode b_Deeds_reverse 43 = .ok (.iload 4, 2) := by decide +kernel
theorem d_Deeds_reverse_45 : decode b_Deeds_reverse 45 = .ok (.aload_n 0, 1) := by decide +kernel
theorem d_Deeds_reverse_46 : decode b_Deeds_reverse 46 = .ok (.getfield 15, 3) := by decide +kernel
theorem d_Deeds_reverse_49 : decode b_Deeds_reverse 49 = .ok (.iload_n 1, 1) := by decide +kernel
theorem d_Deeds_reverse_50 : decode b_Deeds_reverse 50 = .ok (.iload_n 2, 1) := by decide +kernel
theorem d_Deeds_reverse_51 : decode b_Deeds_reverse 51 = .ok (.iconst 1, 1) := by decide +kernel
theorem d_Deeds_reverse_52 : decode b_Deeds_reverse 52 = .ok (.isub, 1) := by decide +kernel
theorem d_Deeds_reverse_53 : decode b_Deeds_reverse 53 = .ok (.iload 4, 2) := by decide +kernel
theorem d_Deeds_reverse_55 : decode b_Deeds_reverse 55 = .ok (.isub, 1) := by decide +kernel
theorem d_Deeds_reverse_56 : decode b_Deeds_reverse 56 = .ok (.invokevirtual 196, 3) := by decide +kernel
theorem d_Deeds_reverse_59 : decode b_Deeds_reverse 59 = .ok (.invokevirtual 213, 3) := by decide +kernel
theorem d_Deeds_reverse_62 : decode b_Deeds_reverse 62 = .ok (.iinc 4 1, 3) := by decide +kernel
theorem d_Deeds_reverse_65 : decode b_Deeds_reverse 65 = .ok (.goto (-39), 3) := by decide +kernel
theorem d_Deeds_reverse_68 : decode b_Deeds_reverse 68 = .ok (.iload_n 3, 1) := by decide +kernel
theorem d_Deeds_reverse_69 : decode b_Deeds_reverse 69 = .ok (.ireturn, 1) := by decide +kernel
theorem d_Deeds_joinLetters_0 : decode b_Deeds_joinLetters 0 = .ok (.aload_n 0, 1) := by decide +kernel
theorem d_Deeds_joinLetters_1 : decode b_Deeds_joinLetters 1 = .ok (.getfield 38, 3) := by decide +kernel
theorem d_Deeds_joinLetters_4 : decode b_Deeds_joinLetters 4 = .ok (.invokevirtual 217, 3) := by decide +kernel
theorem d_Deeds_joinLetters_7 : decode b_Deeds_joinLetters 7 = .ok (.aload_n 0, 1) := by decide +kernel
theorem d_Deeds_joinLetters_8 : decode b_Deeds_joinLetters 8 = .ok (.getfield 38, 3) := by decide +kernel
theorem d_Deeds_joinLetters_11 : decode b_Deeds_joinLetters 11 = .ok (.iload_n 1, 1) := by decide +kernel
theorem d_Deeds_joinLetters_12 : decode b_Deeds_joinLetters 12 = .ok (.iconst 0, 1) := by decide +kernel
theorem d_Deeds_joinLetters_13 : decode b_Deeds_joinLetters 13 = .ok (.invokevirtual 222, 3) := by decide +kernel
theorem d_Deeds_joinLetters_16 : decode b_Deeds_joinLetters 16 = .ok (.aload_n 0, 1) := by decide +kernel
theorem d_Deeds_joinLetters_17 : decode b_Deeds_joinLetters 17 = .ok (.getfield 38, 3) := by decide +kernel
theorem d_Deeds_joinLetters_20 : decode b_Deeds_joinLetters 20 = .ok (.iload_n 2, 1) := by decide +kernel
theorem d_Deeds_joinLetters_21 : decode b_Deeds_joinLetters 21 = .ok (.iconst 0, 1) := by decide +kernel
theorem d_Deeds_joinLetters_22 : decode b_Deeds_joinLetters 22 = .ok (.invokevirtual 222, 3) := by decide +kernel
theorem d_Deeds_joinLetters_25 : decode b_Deeds_joinLetters 25 = .ok (.aload_n 0, 1) := by decide +kernel
theorem d_Deeds_joinLetters_26 : decode b_Deeds_joinLetters 26 = .ok (.getfield 38, 3) := by decide +kernel
theorem d_Deeds_joinLetters_29 : decode b_Deeds_joinLetters 29 = .ok (.getfield 226, 3) := by decide +kernel
theorem d_Deeds_joinLetters_32 : decode b_Deeds_joinLetters 32 = .ok (.istore_n 3, 1) := by decide +kernel
theorem d_Deeds_joinLetters_33 : decode b_Deeds_joinLetters 33 = .ok (.aload_n 0, 1) := by decide +kernel
theorem d_Deeds_joinLetters_34 : decode b_Deeds_joinLetters 34 = .ok (.getfield 38, 3) := by decide +kernel
theorem d_Deeds_joinLetters_37 : decode b_Deeds_joinLetters 37 = .ok (.getfield 229, 3) := by decide +kernel
theorem d_Deeds_joinLetters_40 : decode b_Deeds_joinLetters 40 = .ok (.iconst 0, 1) := by decide +kernel
theorem d_Deeds_joinLetters_41 : decode b_Deeds_joinLetters 41 = .ok (.iload_n 3, 1) := by decide +kernel
theorem d_Deeds_joinLetters_42 : decode b_Deeds_joinLetters 42 = .ok (.invokestatic 233, 3) := by decide +kernel
theorem d_Deeds_joinLetters_45 : decode b_Deeds_joinLetters 45 = .ok (.istore 4, 2) := by decide +kernel
theorem d_Deeds_joinLetters_47 : decode b_Deeds_joinLetters 47 = .ok (.iload 4, 2) := by decide +kernel
theorem d_Deeds_joinLetters_49 : decode b_Deeds_joinLetters 49 = .ok (.ldc 168, 2) := by decide +kernel
theorem d_Deeds_joinLetters_51 : decode b_Deeds_joinLetters 51 = .ok (.if_icmp .ne 6, 3) := by decide +kernel
theorem d_Deeds_joinLetters_54 : decode b_Deeds_joinLetters 54 = .ok (.iload 4, 2) := by decide +kernel
theorem d_Deeds_joinLetters_56 : decode b_Deeds_joinLetters 56 = .ok (.ireturn, 1) := by decide +kernel
theorem d_Deeds_joinLetters_57 : decode b_Deeds_joinLetters 57 = .ok (.iload 4, 2) := by decide +kernel
theorem d_Deeds_joinLetters_59 : decode b_Deeds_joinLetters 59 = .ok (.ldc 206, 2) := by decide +kernel
theorem d_Deeds_joinLetters_61 : decode b_Deeds_joinLetters 61 = .ok (.if_icmp .eq 7, 3) := by decide +kernel
theorem d_Deeds_joinLetters_64 : decode b_Deeds_joinLetters 64 = .ok (.iconst 1, 1) := by decide +kernel
theorem d_Deeds_joinLetters_65 : decode b_Deeds_joinLetters 65 = .ok (.goto 4, 3) := by decide +kernel
theorem d_Deeds_joinLetters_68 : decode b_Deeds_joinLetters 68 = .ok (.iconst 0, 1) := by decide +kernel
theorem d_Deeds_joinLetters_69 : decode b_Deeds_joinLetters 69 = .ok (.istore 5, 2) := by decide +kernel
theorem d_Deeds_joinLetters_71 : decode b_Deeds_joinLetters 71 = .ok (.iload 5, 2) := by decide +kernel
theorem d_Deeds_joinLetters_73 : decode b_Deeds_joinLetters 73 = .ok (.ifCond .eq 28, 3) := by decide +kernel
theorem d_Deeds_joinLetters_76 : decode b_Deeds_joinLetters 76 = .ok (.aload_n 0, 1) := by decide +kernel
theorem d_Deeds_joinLetters_77 : decode b_Deeds_joinLetters 77 = .ok (.getfield 38, 3) := by decide +kernel
theorem d_Deeds_joinLetters_80 : decode b_Deeds_joinLetters 80 = .ok (.invokevirtual 217, 3) := by decide +kernel
theorem d_Deeds_joinLetters_83 : decode b_Deeds_joinLetters 83 = .ok (.aload_n 0, 1) := by decide +kernel
theorem d_Deeds_joinLetters_84 : decode b_Deeds_joinLetters 84 = .ok (.getfield 38, 3) := by decide +kernel
theorem d_Deeds_joinLetters_87 : decode b_Deeds_joinLetters 87 = .ok (.iload 4, 2) := by decide +kernel
theorem d_Deeds_joinLetters_89 : decode b_Deeds_joinLetters 89 = .ok (.iconst 0, 1) := by decide +kernel
theorem d_Deeds_joinLetters_90 : decode b_Deeds_joinLetters 90 = .ok (.invokevirtual 222, 3) := by decide +kernel
theorem d_Deeds_joinLetters_93 : decode b_Deeds_joinLetters 93 = .ok (.aload_n 0, 1) := by decide +kernel
theorem d_Deeds_joinLetters_94 : decode b_Deeds_joinLetters 94 = .ok (.getfield 38, 3) := by decide +kernel
theorem d_Deeds_joinLetters_97 : decode b_Deeds_joinLetters 97 = .ok (.getfield 226, 3) := by decide +kernel
theorem d_Deeds_joinLetters_100 : decode b_Deeds_joinLetters 100 = .ok (.istore_n 3, 1) := by decide +kernel
theorem d_Deeds_joinLetters_101 : decode b_Deeds_joinLetters 101 = .ok (.iload_n 3, 1) := by decide +kernel
theorem d_Deeds_joinLetters_102 : decode b_Deeds_joinLetters 102 = .ok (.bipush 30, 2) := by decide +kernel
theorem d_Deeds_joinLetters_104 : decode b_Deeds_joinLetters 104 = .ok (.if_icmp .gt 18, 3) := by decide +kernel
theorem d_Deeds_joinLetters_107 : decode b_Deeds_joinLetters 107 = .ok (.aload_n 0, 1) := by decide +kernel
theorem d_Deeds_joinLetters_108 : decode b_Deeds_joinLetters 108 = .ok (.getfield 18, 3) := by decide +kernel
theorem d_Deeds_joinLetters_111 : decode b_Deeds_joinLetters 111 = .ok (.getfield 199, 3) := by decide +kernel
theorem d_Deeds_joinLetters_114 : decode b_Deeds_joinLetters 114 = .ok (.iload_n 3, 1) := by decide +kernel
theorem d_Deeds_joinLetters_115 : decode b_Deeds_joinLetters 115 = .ok (.iadd, 1) := by decide +kernel
theorem d_Deeds_joinLetters_116 : decode b_Deeds_joinLetters 116 = .ok (.sipush 30000, 3) := by decide +kernel
theorem d_Deeds_joinLetters_119 : decode b_Deeds_joinLetters 119 = .ok (.if_icmp .le 6, 3) := by decide +kernel
theorem d_Deeds_joinLetters_122 : decode b_Deeds_joinLetters 122 = .ok (.ldc 202, 2) := by decide +kernel
theorem d_Deeds_joinLetters_124 : decode b_Deeds_joinLetters 124 = .ok (.ireturn, 1) := by decide +kernel
theorem d_Deeds_joinLetters_125 : decode b_Deeds_joinLetters 125 = .ok (.iload 5, 2) := by decide +kernel
theorem d_Deeds_joinLetters_127 : decode b_Deeds_joinLetters 127 = .ok (.ifCond .ne 21, 3) := by decide +kernel
theorem d_Deeds_joinLetters_130 : decode b_Deeds_joinLetters 130 = .ok (.aload_n 0, 1) := by decide +kernel
theorem d_Deeds_joinLetters_131 : decode b_Deeds_joinLetters 131 = .ok (.getfield 15, 3) := by decide +kernel
theorem d_Deeds_joinLetters_134 : decode b_Deeds_joinLetters 134 = .ok (.aload_n 0, 1) := by decide +kernel
theorem d_Deeds_joinLetters_135 : decode b_Deeds_joinLetters 135 = .ok (.getfield 38, 3) := by decide +kernel
theorem d_Deeds_joinLetters_138 : decode b_Deeds_joinLetters 138 = .ok (.getfield 229, 3) := by decide +kernel
theorem d_Deeds_joinLetters_141 : decode b_Deeds_joinLetters 141 = .ok (.iconst 0, 1) := by decide +kernel
theorem d_Deeds_joinLetters_142 : decode b_Deeds_joinLetters 142 = .ok (.iload_n 3, 1) := by decide +kernel
theorem d_Deeds_joinLetters_143 : decode b_Deeds_joinLetters 143 = .ok (.invokevirtual 237, 3) := by decide +kernel
theorem d_Deeds_joinLetters_146 : decode b_Deeds_joinLetters 146 = .ok (.istore 4, 2) := by decide +kernel
theorem d_Deeds_joinLetters_148 : decode b_Deeds_joinLetters 148 = .ok (.iload 4, 2) := by decide +kernel
theorem d_Deeds_joinLetters_150 : decode b_Deeds_joinLetters 150 = .ok (.ldc 206, 2) := by decide +kernel
theorem d_Deeds_joinLetters_152 : decode b_Deeds_joinLetters 152 = .ok (.if_icmp .ne 6, 3) := by decide +kernel
theorem d_Deeds_joinLetters_155 : decode b_Deeds_joinLetters 155 = .ok (.ldc 202, 2) := by decide +kernel
theorem d_Deeds_joinLetters_157 : decode b_Deeds_joinLetters 157 = .ok (.ireturn, 1) := by decide +kernel
theorem d_Deeds_joinLetters_158 : decode b_Deeds_joinLetters 158 = .ok (.aload_n 0, 1) := by decide +kernel
theorem d_Deeds_joinLetters_159 : decode b_Deeds_joinLetters 159 = .ok (.getfield 18, 3) := by decide +kernel
theorem d_Deeds_joinLetters_162 : decode b_Deeds_joinLetters 162 = .ok (.dup, 1) := by decide +kernel
theorem d_Deeds_joinLetters_163 : decode b_Deeds_joinLetters 163 = .ok (.getfield 199, 3) := by decide +kernel
theorem d_Deeds_joinLetters_166 : decode b_Deeds_joinLetters 166 = .ok (.iload_n 3, 1) := by decide +kernel
theorem d_Deeds_joinLetters_167 : decode b_Deeds_joinLetters 167 = .ok (.iadd, 1) := by decide +kernel
theorem d_Deeds_joinLetters_168 : decode b_Deeds_joinLetters 168 = .ok (.putfield 199, 3) := by decide +kernel
theorem d_Deeds_joinLetters_171 : decode b_Deeds_joinLetters 171 = .ok (.iload 4, 2) := by decide +kernel
theorem d_Deeds_joinLetters_173 : decode b_Deeds_joinLetters 173 = .ok (.ireturn, 1) := by decide +kernel
theorem lk_Deeds_217 : Cond.methodLink "TurtleWorld$Deeds" 217 ⟨"TurtleWorld$Output", "begin", "()V"⟩ ∈ tw_T := tw_i6 219 (by decide +kernel) (by decide +kernel)
theorem hd_Output_begin : y_Output_begin.cls ≠ "java/lang/invoke/MethodHandle" ∧ y_Output_begin.cls ≠ "java/lang/invoke/VarHandle" ∧ (parseMethodDescriptor y_Output_begin.desc).map (fun d => d.parameters.length) = some 0 := by decide +kernel
theorem in_Output_begin : Cond.instanceMethod ⟨"TurtleWorld$Output", "begin", "()V"⟩ ∈ tw_T := tw_i6 220 (by decide +kernel) (by decide +kernel)
theorem sel_Output_begin : Cond.selects "TurtleWorld$Output" ⟨"TurtleWorld$Output", "begin", "()V"⟩ ⟨"TurtleWorld$Output", "begin", "()V"⟩ ∈ tw_T := tw_i6 221 (by decide +kernel) (by decide +kernel)
theorem lk_Deeds_222 : Cond.methodLink "TurtleWorld$Deeds" 222 ⟨"TurtleWorld$Output", "addShown", "(IZ)V"⟩ ∈ tw_T := tw_i6 223 (by decide +kernel) (by decide +kernel)
theorem hd_Output_addShown : y_Output_addShown.cls ≠ "java/lang/invoke/MethodHandle" ∧ y_Output_addShown.cls ≠ "java/lang/invoke/VarHandle" ∧ (parseMethodDescriptor y_Output_addShown.desc).map (fun d => d.parameters.length) = some 2 := by decide +kernel
theorem in_Output_addShown : Cond.instanceMethod ⟨"TurtleWorld$Output", "addShown", "(IZ)V"⟩ ∈ tw_T := tw_i6 224 (by decide +kernel) (by decide +kernel)
theorem sel_Output_addShown : Cond.selects "TurtleWorld$Output" ⟨"TurtleWorld$Output", "addShown", "(IZ)V"⟩ ⟨"TurtleWorld$Output", "addShown", "(IZ)V"⟩ ∈ tw_T := tw_i6 225 (by decide +kernel) (by decide +kernel)
theorem lk_Deeds_226 : Cond.fieldLink "TurtleWorld$Deeds" 226 "TurtleWorld$Output" "length" "I" ∈ tw_T := tw_i2 131 (by decide +kernel) (by decide +kernel)
theorem lk_Deeds_229 : Cond.fieldLink "TurtleWorld$Deeds" 229 "TurtleWorld$Output" "text" "[I" ∈ tw_T := tw_i2 129 (by decide +kernel) (by decide +kernel)
theorem lk_Deeds_233 : Cond.methodLink "TurtleWorld$Deeds" 233 ⟨"TurtleWorld$Heap", "numberIn", "([III)I"⟩ ∈ tw_T := tw_i7 4 (by decide +kernel) (by decide +kernel)
theorem lk_Deeds_237 : Cond.methodLink "TurtleWorld$Deeds" 237 ⟨"TurtleWorld$Heap", "newWord", "([III)I"⟩ ∈ tw_T := tw_i7 5 (by decide +kernel) (by decide +kernel)
theorem d_Deeds_tell_0 : decode b_Deeds_tell 0 = .ok (.aload_n 0, 1) := by decide +kernel
theorem d_Deeds_tell_1 : decode b_Deeds_tell 1 = .ok (.getfield 15, 3) := by decide +kernel
theorem d_Deeds_tell_4 : decode b_Deeds_tell 4 = .ok (.iload_n 2, 1) := by decide +kernel
theorem d_Deeds_tell_5 : decode b_Deeds_tell 5 = .ok (.iconst 0, 1) := by decide +kernel
theorem d_Deeds_tell_6 : decode b_Deeds_tell 6 = .ok (.invokevirtual 196, 3) := by decide +kernel
theorem d_Deeds_tell_9 : decode b_Deeds_tell 9 = .ok (.istore_n 3, 1) := by decide +kernel
theorem d_Deeds_tell_10 : decode b_Deeds_tell 10 = .ok (.aload_n 0, 1) := by decide +kernel
theorem d_Deeds_tell_11 : decode b_Deeds_tell 11 = .ok (.getfield 15, 3) := by decide +kernel
theorem d_Deeds_tell_14 : decode b_Deeds_tell 14 = .ok (.iload_n 2, 1) := by decide +kernel
theorem d_Deeds_tell_15 : decode b_Deeds_tell 15 = .ok (.iconst 1, 1) := by decide +kernel
theorem d_Deeds_tell_16 : decode b_Deeds_tell 16 = .ok (.invokevirtual 196, 3) := by decide +kernel
theorem d_Deeds_tell_19 : decode b_Deeds_tell 19 = .ok (.istore 4, 2) := by decide +kernel
theorem d_Deeds_tell_21 : decode b_Deeds_tell 21 = .ok (.aload_n 0, 1) := by decide +kernel
theorem d_Deeds_tell_22 : decode b_Deeds_tell 22 = .ok (.getfield 15, 3) := by decide +kernel
theorem d_Deeds_tell_25 : decode b_Deeds_tell 25 = .ok (.iload_n 1, 1) := by decide +kernel
theorem d_Deeds_tell_26 : decode b_Deeds_tell 26 = .ok (.invokevirtual 278, 3) := by decide +kernel
theorem d_Deeds_tell_29 : decode b_Deeds_tell 29 = .ok (.ifCond .ne 30, 3) := by decide +kernel
theorem d_Deeds_tell_32 : decode b_Deeds_tell 32 = .ok (.aload_n 0, 1) := by decide +kernel
theorem d_Deeds_tell_33 : decode b_Deeds_tell 33 = .ok (.getfield 15, 3) := by decide +kernel
theorem d_Deeds_tell_36 : decode b_Deeds_tell 36 = .ok (.iload_n 2, 1) := by decide +kernel
theorem d_Deeds_tell_37 : decode b_Deeds_tell 37 = .ok (.invokevirtual 173, 3) := by decide +kernel
theorem d_Deeds_tell_40 : decode b_Deeds_tell 40 = .ok (.iconst 2, 1) := by decide +kernel
theorem d_Deeds_tell_41 : decode b_Deeds_tell 41 = .ok (.if_icmp .ne 18, 3) := by decide +kernel
theorem d_Deeds_tell_44 : decode b_Deeds_tell 44 = .ok (.iload_n 3, 1) := by decide +kernel
theorem d_Deeds_tell_45 : decode b_Deeds_tell 45 = .ok (.invokestatic 75, 3) := by decide +kernel
theorem d_Deeds_tell_48 : decode b_Deeds_tell 48 = .ok (.ifCond .eq 11, 3) := by decide +kernel
theorem d_Deeds_tell_51 : decode b_Deeds_tell 51 = .ok (.iload 4, 2) := by decide +kernel
theorem d_Deeds_tell_53 : decode b_Deeds_tell 53 = .ok (.invokestatic 75, 3) := by decide +kernel
theorem d_Deeds_tell_56 : decode b_Deeds_tell 56 = .ok (.ifCond .ne 6, 3) := by decide +kernel
theorem d_Deeds_tell_59 : decode b_Deeds_tell 59 = .ok (.ldc 146, 2) := by decide +kernel
theorem d_Deeds_tell_61 : decode b_Deeds_tell 61 = .ok (.ireturn, 1) := by decide +kernel
theorem d_Deeds_tell_62 : decode b_Deeds_tell 62 = .ok (.aload_n 0, 1) := by decide +kernel
theorem d_Deeds_tell_63 : decode b_Deeds_tell 63 = .ok (.iload_n 3, 1) := by decide +kernel
theorem d_Deeds_tell_64 : decode b_Deeds_tell 64 = .ok (.invokevirtual 281, 3) := by decide +kernel
theorem d_Deeds_tell_67 : decode b_Deeds_tell 67 = .ok (.ifCond .eq 18, 3) := by decide +kernel
theorem d_Deeds_tell_70 : decode b_Deeds_tell 70 = .ok (.aload_n 0, 1) := by decide +kernel
theorem d_Deeds_tell_71 : decode b_Deeds_tell 71 = .ok (.getfield 15, 3) := by decide +kernel
theorem d_Deeds_tell_74 : decode b_Deeds_tell 74 = .ok (.iload 4, 2) := by decide +kernel
theorem d_Deeds_tell_76 : decode b_Deeds_tell 76 = .ok (.invokevirtual 207, 3) := by decide +kernel
theorem d_Deeds_tell_79 : decode b_Deeds_tell 79 = .ok (.sipush 600, 3) := by decide +kernel
theorem d_Deeds_tell_82 : decode b_Deeds_tell 82 = .ok (.if_icmp .le 6, 3) := by decide +kernel
theorem d_Deeds_tell_85 : decode b_Deeds_tell 85 = .ok (.ldc 146, 2) := by decide +kernel
theorem d_Deeds_tell_87 : decode b_Deeds_tell 87 = .ok (.ireturn, 1) := by decide +kernel
theorem d_Deeds_tell_88 : decode b_Deeds_tell 88 = .ok (.aload_n 0, 1) := by decide +kernel
theorem d_Deeds_tell_89 : decode b_Deeds_tell 89 = .ok (.getfield 30, 3) := by decide +kernel
theorem d_Deeds_tell_92 : decode b_Deeds_tell 92 = .ok (.iload_n 1, 1) := by decide +kernel
theorem d_Deeds_tell_93 : decode b_Deeds_tell 93 = .ok (.iload_n 3, 1) := by decide +kernel
theorem d_Deeds_tell_94 : decode b_Deeds_tell 94 = .ok (.iload 4, 2) := by decide +kernel
theorem d_Deeds_tell_96 : decode b_Deeds_tell 96 = .ok (.invokevirtual 284, 3) := by decide +kernel
theorem d_Deeds_tell_99 : decode b_Deeds_tell 99 = .ok (.ifCond .eq 8, 3) := by decide +kernel
theorem d_Deeds_tell_102 : decode b_Deeds_tell 102 = .ok (.ldc 206, 2) := by decide +kernel
theorem d_Deeds_tell_104 : decode b_Deeds_tell 104 = .ok (.goto 5, 3) := by decide +kernel
theorem d_Deeds_tell_107 : decode b_Deeds_tell 107 = .ok (.ldc 202, 2) := by decide +kernel
theorem d_Deeds_tell_109 : decode b_Deeds_tell 109 = .ok (.ireturn, 1) := by decide +kernel
theorem lk_Deeds_278 : Cond.methodLink "TurtleWorld$Deeds" 278 ⟨"TurtleWorld$Heap", "meaning", "(I)I"⟩ ∈ tw_T := tw_i7 33 (by decide +kernel) (by decide +kernel)
theorem lk_Deeds_281 : Cond.methodLink "TurtleWorld$Deeds" 281 ⟨"TurtleWorld$Deeds", "canBeInputs", "(I)Z"⟩ ∈ tw_T := tw_i7 34 (by decide +kernel) (by decide +kernel)
theorem hd_Deeds_canBeInputs : y_Deeds_canBeInputs.cls ≠ "java/lang/invoke/MethodHandle" ∧ y_Deeds_canBeInputs.cls ≠ "java/lang/invoke/VarHandle" ∧ (parseMethodDescriptor y_Deeds_canBeInputs.desc).map (fun d => d.parameters.length) = some 1 := by decide +kernel
theorem in_Deeds_canBeInputs : Cond.instanceMethod ⟨"TurtleWorld$Deeds", "canBeInputs", "(I)Z"⟩ ∈ tw_T := tw_i7 36 (by decide +kernel) (by decide +kernel)
theorem sel_Deeds_canBeInputs : Cond.selects "TurtleWorld$Deeds" ⟨"TurtleWorld$Deeds", "canBeInputs", "(I)Z"⟩ ⟨"TurtleWorld$Deeds", "canBeInputs", "(I)Z"⟩ ∈ tw_T := tw_inS 72 (by decide +kernel) (by decide +kernel)
theorem lk_Deeds_284 : Cond.methodLink "TurtleWorld$Deeds" 284 ⟨"TurtleWorld$Procedures", "tell", "(III)Z"⟩ ∈ tw_T := tw_i7 38 (by decide +kernel) (by decide +kernel)
theorem d_Deeds_write_0 : decode b_Deeds_write 0 = .ok (.aload_n 0, 1) := by decide +kernel
theorem d_Deeds_write_1 : decode b_Deeds_write 1 = .ok (.getfield 38, 3) := by decide +kernel
theorem d_Deeds_write_4 : decode b_Deeds_write 4 = .ok (.invokevirtual 217, 3) := by decide +kernel
theorem d_Deeds_write_7 : decode b_Deeds_write 7 = .ok (.aload_n 0, 1) := by decide +kernel
theorem d_Deeds_write_8 : decode b_Deeds_write 8 = .ok (.getfield 38, 3) := by decide +kernel
theorem d_Deeds_write_11 : decode b_Deeds_write 11 = .ok (.iload_n 1, 1) := by decide +kernel
theorem d_Deeds_write_12 : decode b_Deeds_write 12 = .ok (.iload_n 2, 1) := by decide +kernel
theorem d_Deeds_write_13 : decode b_Deeds_write 13 = .ok (.invokevirtual 222, 3) := by decide +kernel
theorem d_Deeds_write_16 : decode b_Deeds_write 16 = .ok (.iload_n 3, 1) := by decide +kernel
theorem d_Deeds_write_17 : decode b_Deeds_write 17 = .ok (.ifCond .eq 12, 3) := by decide +kernel
theorem d_Deeds_write_20 : decode b_Deeds_write 20 = .ok (.aload_n 0, 1) := by decide +kernel
theorem d_Deeds_write_21 : decode b_Deeds_write 21 = .ok (.getfield 38, 3) := by decide +kernel
theorem d_Deeds_write_24 : decode b_Deeds_write 24 = .ok (.bipush 10, 2) := by decide +kernel
theorem d_Deeds_write_26 : decode b_Deeds_write 26 = .ok (.invokevirtual 296, 3) := by decide +kernel
theorem d_Deeds_write_29 : decode b_Deeds_write 29 = .ok (.aload_n 0, 1) := by decide +kernel
theorem d_Deeds_write_30 : decode b_Deeds_write 30 = .ok (.getfield 38, 3) := by decide +kernel
theorem d_Deeds_write_33 : decode b_Deeds_write 33 = .ok (.invokevirtual 300, 3) := by decide +kernel
theorem d_Deeds_write_36 : decode b_Deeds_write 36 = .ok (.ldc 206, 2) := by decide +kernel
theorem d_Deeds_write_38 : decode b_Deeds_write 38 = .ok (.ireturn, 1) := by decide +kernel
theorem lk_Deeds_300 : Cond.methodLink "TurtleWorld$Deeds" 300 ⟨"TurtleWorld$Output", "send", "()V"⟩ ∈ tw_T := tw_i7 53 (by decide +kernel) (by decide +kernel)
theorem hd_Output_send : y_Output_send.cls ≠ "java/lang/invoke/MethodHandle" ∧ y_Output_send.cls ≠ "java/lang/invoke/VarHandle" ∧ (parseMethodDescriptor y_Output_send.desc).map (fun d => d.parameters.length) = some 0 := by decide +kernel
theorem in_Output_send : Cond.instanceMethod ⟨"TurtleWorld$Output", "send", "()V"⟩ ∈ tw_T := tw_i7 54 (by decide +kernel) (by decide +kernel)
theorem sel_Output_send : Cond.selects "TurtleWorld$Output" ⟨"TurtleWorld$Output", "send", "()V"⟩ ⟨"TurtleWorld$Output", "send", "()V"⟩ ∈ tw_T := tw_i7 55 (by decide +kernel) (by decide +kernel)
theorem lk_Deeds_296 : Cond.methodLink "TurtleWorld$Deeds" 296 ⟨"TurtleWorld$Output", "add", "(I)V"⟩ ∈ tw_T := tw_i7 52 (by decide +kernel) (by decide +kernel)
def m_Turtles_turnBy (n : Nat) (g : Nat → Nat) (i : Nat → Int32) (a : Nat → Nat → Int32) (v1 : Int32) : Option ((Nat → Int32) × (Nat → Nat → Int32) × Int32) := ob0 (m_Turtles_part n g i a (i 17) (4 : Int32)) (fun r_2 => ob (m_Turtles_turnTo n g i a r_2 v1) (fun i_4 a_5 r_6 => some (i_4, a_5, r_6)))
set_option maxHeartbeats 4000000 in
set_option maxRecDepth 100000 in
theorem x_Turtles_turnBy (l : Launch) (dC : Nat → ClassId) (dI : Nat → Nat → Nat) (cI : ClassId) (adK adV adA u o g : Nat → Nat) (sz : Nat) (n : Nat) {i : Nat → Int32} {a : Nat → Nat → Int32} {v1 : Int32} {i2 : Nat → Int32} {a2 : Nat → Nat → Int32} {r2 : Int32} (hm : m_Turtles_turnBy n g i a v1 = some (i2, a2, r2)) : Met l y_Turtles_turnBy w_Turtles_turnBy ({ frames := 3, cells := 0, slots := 0, locals := 64 } : Room) (va_Pc [.ref ((u 5)), .int v1] (xE dC dI cI adK adV adA u o g i a sz)) (va_Qi (xR r2) (xB dC dI cI u o g i2 a2 (va_A (TW cI u o i a g) sz)) (va_A (TW cI u o i a g) sz)) 0 0 ((va_A (TW cI u o i a g) sz)) := by
  refine Met.ofW (cc := b_Turtles_turnBy) (maxL := 2) (ret := (some .int)) (by decide) rfl ?_
  intro p e s m args below meth c s₁ B hml hv
  obtain ⟨rfl, hsz, hP, hK, hE, hD0⟩ := hv
  have hx := B.exec
  have hb := B.bytes
  have hr := B.returns
  have hts := atoms_spec (ws := w_Turtles_turnBy) B.pre
  have htt : ∀ w ∈ tw_T, w.before _ s = true := fun w h => hts w (List.mem_cons_of_mem _ h)
  have hown : s.vm.findClass R_Turtles = some m.cls := findClass_of_methodNamed B.named
  have hlocks := B.notSynchronized
  subst hsz
  have hD := hD0.self (sz := s.heap.size)
  generalize hAe : (va_A (TW cI u o i a g) s.heap.size) = A at hD hE ⊢
  have hA : ∀ q : Nat, s.heap.size ≤ q → A q := fun q h => by rw [← hAe]; exact Or.inr h
  have hS : va_S A s.heap s.heap [] := va_S.rf
  have hl := lv_entry ([.ref ((u 5)), .int v1]) (n := 2) (Nat.le_of_ble_eq_true rfl)
  rw [lg_entry_eq]
  generalize (lg_sl ([.ref ((u 5)), .int v1]) ++ List.replicate (2 - (lg_sl ([.ref ((u 5)), .int v1])).length) Slot.unset).toArray = ls at hl ⊢
  have hl : lv_has ls 2 [(0, .ref ((u 5))), (1, .int v1)] := hl
  rw [m_Turtles_turnBy] at hm
  refine lv_aload_n hx hb d_Turtles_turnBy_0 rfl (lv_at hl 0 rfl) ?_
  refine lv_aload_n hx hb d_Turtles_turnBy_1 rfl (lv_at hl 0 rfl) ?_
  refine lv_aload_n hx hb d_Turtles_turnBy_2 rfl (lv_at hl 0 rfl) ?_
  refine va_get (D := (dC, dI)) (ci := 5) (v := .int (i 17)) (C := R_Turtles) (T := F_Turtles) (N := 8) hx hb htt iw_Turtles hown hK hP 5 xo_5 rfl 2 (Nat.le_of_ble_eq_true rfl) (htt _ lk_Turtles_34) (fun _ h9 => h9) xg_5_2 d_Turtles_turnBy_3 ?_
  refine lv_iconst (v := 4) hx hb d_Turtles_turnBy_6 (by decide) ?_
  obtain ⟨r_2, h_1, hm⟩ := ob0_some hm
  have hFc := x_free0 hS hA
  refine va_calli (va_runV (As := [.int (i 17), .int 4]) (rest := [.ref ((u 5))]) ⟨hx, hb, hml, hown, hts⟩ (x_Turtles_part l dC dI cI adK adV adA u o g s.heap.size n h_1) (cwV 2 hts (tw_GV tw_cons cw_Turtles_part lk_Turtles_119 in_Turtles_part sel_Turtles_part ini_Turtles) rfl rfl rfl ⟨rfl, hd_Turtles_part⟩ ⟨Nat.le_of_ble_eq_true rfl, Nat.le_of_ble_eq_true rfl⟩) (xpVr hK hP hS hE hFc xo_5 rfl) rfl rfl hl.1 rfl (lv_room (Nat.le_of_ble_eq_true rfl)) d_Turtles_turnBy_7 ⟨Nat.le_of_ble_eq_true rfl, Nat.le_of_ble_eq_true rfl⟩) hS (fun q _ h => hFc q h) hFc (fun r9 u9 t9 H locs ht hvm e9 hB hz1 hk1 hS => ?_)
  have e9 : r_2 = r9 := e9
  subst e9
  replace hP := x_keep hP hk1
  clear hFc hk1 hz1 hvm hB ht
  refine lv_iload_n hx hb d_Turtles_turnBy_10 rfl (lv_at hl 1 rfl) ?_
  obtain ⟨i_4, a_5, r_6, h_3, hm⟩ := ob_some hm
  have hFc := x_free hD hS hA
  refine va_calli (va_runV (As := [.int r_2, .int v1]) (rest := []) ⟨hx, hb, hml, hown, hts⟩ (x_Turtles_turnTo l dC dI cI adK adV adA u o g H.size n h_3) (cwV 2 hts (tw_GV tw_cons cw_Turtles_turnTo lk_Turtles_125 in_Turtles_turnTo sel_Turtles_turnTo ini_Turtles) rfl rfl rfl ⟨rfl, hd_Turtles_turnTo⟩ ⟨Nat.le_of_ble_eq_true rfl, Nat.le_of_ble_eq_true rfl⟩) (xpV hK hP hD hS hE hFc xo_5 rfl) rfl rfl hl.1 rfl (lv_room (Nat.le_of_ble_eq_true rfl)) d_Turtles_turnBy_11 ⟨Nat.le_of_ble_eq_true rfl, Nat.le_of_ble_eq_true rfl⟩) hS (fun q _ h => hFc q h) hFc (fun r9 u9 t9 H locs ht hvm e9 hB hz1 hk1 hS => ?_)
  have e9 : r_6 = r9 := e9
  subst e9
  obtain ⟨hP, hD⟩ := x_aft hB ht hFc
  clear hFc hk1 hz1 hvm hB ht
  obtain ⟨e1i, e1a, e3⟩ := re3 hm
  obtain ⟨hP, hD⟩ := x_eq e1i e1a hP hD
  exact W.iret hx hb hr (fun t9 ht hW => ⟨⟨_, (), rfl, e3.symm, by rw [ht]; exact hP, hD⟩, hS.F ht⟩) hS.2.2 d_Turtles_turnBy_14

def m_Turtles_goHome (n : Nat) (g : Nat → Nat) (i : Nat → Int32) (a : Nat → Nat → Int32)  : Option ((Nat → Int32) × (Nat → Nat → Int32) × Int32) := ob (m_Turtles_setPart n g i a (4 : Int32) (0 : Int32)) (fun i_2 a_3 r_4 => ob (m_Turtles_putAt n g i_2 a_3 (0 : Int32) (0 : Int32)) (fun i_6 a_7 r_8 => some (i_6, a_7, r_8)))
set_option maxHeartbeats 4000000 in
set_option maxRecDepth 100000 in
theorem x_Turtles_goHome (l : Launch) (dC : Nat → ClassId) (dI : Nat → Nat → Nat) (cI : ClassId) (adK adV adA u o g : Nat → Nat) (sz : Nat) (n : Nat) {i : Nat → Int32} {a : Nat → Nat → Int32}  {i2 : Nat → Int32} {a2 : Nat → Nat → Int32} {r2 : Int32} (hm : m_Turtles_goHome n g i a = some (i2, a2, r2)) : Met l y_Turtles_goHome w_Turtles_goHome ({ frames := 3, cells := 0, slots := 0, locals := 64 } : Room) (va_Pc [.ref ((u 5))] (xE dC dI cI adK adV adA u o g i a sz)) (va_Qi (xR r2) (xB dC dI cI u o g i2 a2 (va_A (TW cI u o i a g) sz)) (va_A (TW cI u o i a g) sz)) 0 0 ((va_A (TW cI u o i a g) sz)) := by
  refine Met.ofW (cc := b_Turtles_goHome) (maxL := 1) (ret := (some .int)) (by decide) rfl ?_
  intro p e s m args below meth c s₁ B hml hv
  obtain ⟨rfl, hsz, hP, hK, hE, hD0⟩ := hv
  have hx := B.exec
  have hb := B.bytes
  have hr := B.returns
  have hts := atoms_spec (ws := w_Turtles_goHome) B.pre
  have htt : ∀ w ∈ tw_T, w.before _ s = true := fun w h => hts w (List.mem_cons_of_mem _ h)
  have hown : s.vm.findClass R_Turtles = some m.cls := findClass_of_methodNamed B.named
  have hlocks := B.notSynchronized
  subst hsz
  have hD := hD0.self (sz := s.heap.size)
  generalize hAe : (va_A (TW cI u o i a g) s.heap.size) = A at hD hE ⊢
  have hA : ∀ q : Nat, s.heap.size ≤ q → A q := fun q h => by rw [← hAe]; exact Or.inr h
  have hS : va_S A s.heap s.heap [] := va_S.rf
  have hl := lv_entry ([.ref ((u 5))]) (n := 1) (Nat.le_of_ble_eq_true rfl)
  rw [lg_entry_eq]
  generalize (lg_sl ([.ref ((u 5))]) ++ List.replicate (1 - (lg_sl ([.ref ((u 5))])).length) Slot.unset).toArray = ls at hl ⊢
  have hl : lv_has ls 1 [(0, .ref ((u 5)))] := hl
  rw [m_Turtles_goHome] at hm
  refine lv_aload_n hx hb d_Turtles_goHome_0 rfl (lv_at hl 0 rfl) ?_
  refine lv_iconst (v := 4) hx hb d_Turtles_goHome_1 (by decide) ?_
  refine lv_iconst (v := 0) hx hb d_Turtles_goHome_2 (by decide) ?_
  obtain ⟨i_2, a_3, r_4, h_1, hm⟩ := ob_some hm
  have hFc := x_free hD hS hA
  refine va_callv (va_runV (As := [.int 4, .int 0]) (rest := []) ⟨hx, hb, hml, hown, hts⟩ (x_Turtles_setPart l dC dI cI adK adV adA u o g s.heap.size n h_1) (cwV 2 hts (tw_GV tw_cons cw_Turtles_setPart lk_Turtles_122 in_Turtles_setPart sel_Turtles_setPart ini_Turtles) rfl rfl rfl ⟨rfl, hd_Turtles_setPart⟩ ⟨Nat.le_of_ble_eq_true rfl, Nat.le_of_ble_eq_true rfl⟩) (xpV hK hP hD hS hE hFc xo_5 rfl) rfl rfl hl.1 rfl (lv_room (Nat.le_of_ble_eq_true rfl)) d_Turtles_goHome_3 ⟨Nat.le_of_ble_eq_true rfl, Nat.le_of_ble_eq_true rfl⟩) hS (fun q _ h => hFc q h) hFc (fun u9 t9 H locs ht hvm e9 hB hz1 hk1 hS => ?_)
  obtain ⟨hP, hD⟩ := x_aft hB ht hFc
  clear hFc hk1 hz1 hvm hB ht
  refine lv_aload_n hx hb d_Turtles_goHome_6 rfl (lv_at hl 0 rfl) ?_
  refine lv_iconst (v := 0) hx hb d_Turtles_goHome_7 (by decide) ?_
  refine lv_iconst (v := 0) hx hb d_Turtles_goHome_8 (by decide) ?_
  obtain ⟨i_6, a_7, r_8, h_5, hm⟩ := ob_some hm
  have hFc := x_free hD hS hA
  refine va_calli (va_runV (As := [.int 0, .int 0]) (rest := []) ⟨hx, hb, hml, hown, hts⟩ (x_Turtles_putAt l dC dI cI adK adV adA u o g H.size n h_5) (cwV 2 hts (tw_GV tw_cons cw_Turtles_putAt lk_Turtles_128 in_Turtles_putAt sel_Turtles_putAt ini_Turtles) rfl rfl rfl ⟨rfl, hd_Turtles_putAt⟩ ⟨Nat.le_of_ble_eq_true rfl, Nat.le_of_ble_eq_true rfl⟩) (xpV hK hP hD hS hE hFc xo_5 rfl) rfl rfl hl.1 rfl (lv_room (Nat.le_of_ble_eq_true rfl)) d_Turtles_goHome_9 ⟨Nat.le_of_ble_eq_true rfl, Nat.le_of_ble_eq_true rfl⟩) hS (fun q _ h => hFc q h) hFc (fun r9 u9 t9 H locs ht hvm e9 hB hz1 hk1 hS => ?_)
  have e9 : r_8 = r9 := e9
  subst e9
  obtain ⟨hP, hD⟩ := x_aft hB ht hFc
  clear hFc hk1 hz1 hvm hB ht
  obtain ⟨e1i, e1a, e3⟩ := re3 hm
  obtain ⟨hP, hD⟩ := x_eq e1i e1a hP hD
  exact W.iret hx hb hr (fun t9 ht hW => ⟨⟨_, (), rfl, e3.symm, by rw [ht]; exact hP, hD⟩, hS.F ht⟩) hS.2.2 d_Turtles_goHome_12

def m_Deeds_same (n : Nat) (g : Nat → Nat) (i : Nat → Int32) (a : Nat → Nat → Int32) (v1 : Int32) (v2 : Int32) : Option (Int32) := ob0 (m_Turtles_exists n v1) (fun r_2 => if r_2 = ((0 : Int32)) then some ((-2147483645)) else ob0 (m_Turtles_exists n v2) (fun r_5 => if r_5 = ((0 : Int32)) then some ((-2147483645)) else ob0 (m_Turtles_atOnePlace n g i a v1 v2) (fun r_8 => ob0 (m_Heap_truth n g i a r_8) (fun r_10 => some r_10))))
set_option maxHeartbeats 4000000 in
set_option maxRecDepth 100000 in
theorem x_Deeds_same (l : Launch) (dC : Nat → ClassId) (dI : Nat → Nat → Nat) (cI : ClassId) (adK adV adA u o g : Nat → Nat) (sz : Nat) (n : Nat) {i : Nat → Int32} {a : Nat → Nat → Int32} {v1 : Int32} {v2 : Int32} {r2 : Int32} (hm : m_Deeds_same n g i a v1 v2 = some r2) : Met l y_Deeds_same w_Deeds_same ({ frames := 3, cells := 0, slots := 0, locals := 65 } : Room) (va_Pc [.ref ((u 10)), .int v1, .int v2] (xEr dC dI cI adK adV adA u o g i a sz)) (va_Qi (xR r2) xT (xN sz)) 0 0 (xN sz) := by
  refine Met.ofW (cc := b_Deeds_same) (maxL := 3) (ret := (some .int)) (by decide) rfl ?_
  intro p e s m args below meth c s₁ B hml hv
  obtain ⟨rfl, hsz, hP, hK, hE⟩ := hv
  have hx := B.exec
  have hb := B.bytes
  have hr := B.returns
  have hts := atoms_spec (ws := w_Deeds_same) B.pre
  have htt : ∀ w ∈ tw_T, w.before _ s = true := fun w h => hts w (List.mem_cons_of_mem _ h)
  have hown : s.vm.findClass R_Deeds = some m.cls := findClass_of_methodNamed B.named
  have hlocks := B.notSynchronized
  subst hsz
  generalize hAe : xN s.heap.size = A at hE ⊢
  have hA : ∀ q : Nat, s.heap.size ≤ q → A q := fun q h => by rw [← hAe]; exact Or.inr h
  have hS : va_S A s.heap s.heap [] := va_S.rf
  have hl := lv_entry ([.ref ((u 10)), .int v1, .int v2]) (n := 3) (Nat.le_of_ble_eq_true rfl)
  rw [lg_entry_eq]
  generalize (lg_sl ([.ref ((u 10)), .int v1, .int v2]) ++ List.replicate (3 - (lg_sl ([.ref ((u 10)), .int v1, .int v2])).length) Slot.unset).toArray = ls at hl ⊢
  have hl : lv_has ls 3 [(0, .ref ((u 10))), (1, .int v1), (2, .int v2)] := hl
  rw [m_Deeds_same] at hm
  refine lv_iload_n hx hb d_Deeds_same_0 rfl (lv_at hl 1 rfl) ?_
  obtain ⟨r_2, h_1, hm⟩ := ob0_some hm
  have hFc := x_free0 hS hA
  refine va_calli (va_runS (As := [.int v1]) (rest := []) ⟨hx, hb, hml, hown, hts⟩ (x_Turtles_exists l s.heap.size n h_1) (va_cwS 1 hts (tw_GS tw_cons cw_Turtles_exists lk_Deeds_143 st_Turtles_exists ini_Turtles) rfl rfl rfl hd_Turtles_exists ⟨Nat.le_of_ble_eq_true rfl, Nat.le_of_ble_eq_true rfl⟩) xpS0 rfl rfl hl.1 rfl (lv_room (Nat.le_of_ble_eq_true rfl)) d_Deeds_same_1 ⟨Nat.le_of_ble_eq_true rfl, Nat.le_of_ble_eq_true rfl⟩) hS (fun q _ h => hFc q h) hFc (fun r9 u9 t9 H locs ht hvm e9 hB hz1 hk1 hS => ?_)
  have e9 : r_2 = r9 := e9
  subst e9
  replace hP := x_keep hP hk1
  clear hFc hk1 hz1 hvm hB ht
  refine lv_if_eq (tgt := 14) hx hb d_Deeds_same_4 (by decide) (fun c_3 => ?_) (fun c_3 => ?_)
  · replace hm := if_t c_3 hm
    refine lv_ldc (v := (-2147483645)) hx hb hown (htt _ lk_Deeds_146) d_Deeds_same_14 ?_
    have e3 := re1 hm
    exact W.iret hx hb hr (fun t9 ht hW => ⟨⟨_, (), rfl, e3.symm, trivial⟩, hS.F ht⟩) hS.2.2 d_Deeds_same_16
  · replace hm := if_f c_3 hm
    refine lv_iload_n hx hb d_Deeds_same_7 rfl (lv_at hl 2 rfl) ?_
    obtain ⟨r_5, h_4, hm⟩ := ob0_some hm
    have hFc := x_free0 hS hA
    refine va_calli (va_runS (As := [.int v2]) (rest := []) ⟨hx, hb, hml, hown, hts⟩ (x_Turtles_exists l H.size n h_4) (va_cwS 1 hts (tw_GS tw_cons cw_Turtles_exists lk_Deeds_143 st_Turtles_exists ini_Turtles) rfl rfl rfl hd_Turtles_exists ⟨Nat.le_of_ble_eq_true rfl, Nat.le_of_ble_eq_true rfl⟩) xpS0 rfl rfl hl.1 rfl (lv_room (Nat.le_of_ble_eq_true rfl)) d_Deeds_same_8 ⟨Nat.le_of_ble_eq_true rfl, Nat.le_of_ble_eq_true rfl⟩) hS (fun q _ h => hFc q h) hFc (fun r9 u9 t9 H locs ht hvm e9 hB hz1 hk1 hS => ?_)
    have e9 : r_5 = r9 := e9
    subst e9
    replace hP := x_keep hP hk1
    clear hFc hk1 hz1 hvm hB ht
    refine lv_if_ne (tgt := 17) hx hb d_Deeds_same_11 (by decide) (fun c_6 => ?_) (fun c_6 => ?_)
    · replace hm := if_f c_6 hm
      refine lv_aload_n hx hb d_Deeds_same_17 rfl (lv_at hl 0 rfl) ?_
      refine va_get (D := (dC, dI)) (ci := 10) (v := .ref ((u 1))) (C := R_Deeds) (T := F_Deeds) (N := 8) hx hb htt iw_Deeds hown hK hP 10 xo_10 rfl 0 (Nat.le_of_ble_eq_true rfl) (htt _ lk_Deeds_15) (fun _ h9 => h9) xg_10_0 d_Deeds_same_18 ?_
      refine lv_aload_n hx hb d_Deeds_same_21 rfl (lv_at hl 0 rfl) ?_
      refine va_get (D := (dC, dI)) (ci := 10) (v := .ref ((u 5))) (C := R_Deeds) (T := F_Deeds) (N := 8) hx hb htt iw_Deeds hown hK hP 10 xo_10 rfl 5 (Nat.le_of_ble_eq_true rfl) (htt _ lk_Deeds_34) (fun _ h9 => h9) xg_10_5 d_Deeds_same_22 ?_
      refine lv_iload_n hx hb d_Deeds_same_25 rfl (lv_at hl 1 rfl) ?_
      refine lv_iload_n hx hb d_Deeds_same_26 rfl (lv_at hl 2 rfl) ?_
      obtain ⟨r_8, h_7, hm⟩ := ob0_some hm
      have hFc := x_free0 hS hA
      refine va_calli (va_runV (As := [.int v1, .int v2]) (rest := [.ref ((u 1))]) ⟨hx, hb, hml, hown, hts⟩ (x_Turtles_atOnePlace l dC dI cI adK adV adA u o g H.size n h_7) (cwV 2 hts (tw_GV tw_cons cw_Turtles_atOnePlace lk_Deeds_147 in_Turtles_atOnePlace sel_Turtles_atOnePlace ini_Turtles) rfl rfl rfl ⟨rfl, hd_Turtles_atOnePlace⟩ ⟨Nat.le_of_ble_eq_true rfl, Nat.le_of_ble_eq_true rfl⟩) (xpVr hK hP hS hE hFc xo_5 rfl) rfl rfl hl.1 rfl (lv_room (Nat.le_of_ble_eq_true rfl)) d_Deeds_same_27 ⟨Nat.le_of_ble_eq_true rfl, Nat.le_of_ble_eq_true rfl⟩) hS (fun q _ h => hFc q h) hFc (fun r9 u9 t9 H locs ht hvm e9 hB hz1 hk1 hS => ?_)
      have e9 : r_8 = r9 := e9
      subst e9
      replace hP := x_keep hP hk1
      clear hFc hk1 hz1 hvm hB ht
      obtain ⟨r_10, h_9, hm⟩ := ob0_some hm
      have hFc := x_free0 hS hA
      refine va_calli (va_runV (As := [.int r_8]) (rest := []) ⟨hx, hb, hml, hown, hts⟩ (x_Heap_truth l dC dI cI adK adV adA u o g H.size n h_9) (cwV 1 hts (tw_GV tw_cons cw_Heap_truth lk_Deeds_150 in_Heap_truth sel_Heap_truth ini_Heap) rfl rfl rfl ⟨rfl, hd_Heap_truth⟩ ⟨Nat.le_of_ble_eq_true rfl, Nat.le_of_ble_eq_true rfl⟩) (xpVr hK hP hS hE hFc xo_1 rfl) rfl rfl hl.1 rfl (lv_room (Nat.le_of_ble_eq_true rfl)) d_Deeds_same_30 ⟨Nat.le_of_ble_eq_true rfl, Nat.le_of_ble_eq_true rfl⟩) hS (fun q _ h => hFc q h) hFc (fun r9 u9 t9 H locs ht hvm e9 hB hz1 hk1 hS => ?_)
      have e9 : r_10 = r9 := e9
      subst e9
      replace hP := x_keep hP hk1
      clear hFc hk1 hz1 hvm hB ht
      have e3 := re1 hm
      exact W.iret hx hb hr (fun t9 ht hW => ⟨⟨_, (), rfl, e3.symm, trivial⟩, hS.F ht⟩) hS.2.2 d_Deeds_same_33
    · replace hm := if_t c_6 hm
      refine lv_ldc (v := (-2147483645)) hx hb hown (htt _ lk_Deeds_146) d_Deeds_same_14 ?_
      have e3 := re1 hm
      exact W.iret hx hb hr (fun t9 ht hW => ⟨⟨_, (), rfl, e3.symm, trivial⟩, hS.F ht⟩) hS.2.2 d_Deeds_same_16

def m_Deeds_without_b56 (n : Nat) : Nat → (Nat → Int32) → (Nat → Nat → Int32) → (Nat → Nat) → Int32 → Int32 → Int32 → Int32 → Int32 → Option ((Nat → Int32) × (Nat → Nat → Int32) × (Nat → Nat) × (Nat × Nat) × Int32)
  | 0, _, _, _, _, _, _, _, _ => none
  | f + 1, i, a, g, v1, v3, v4, v5, v6 => if v4 ≤ v6 then some (i, a, g, (0, 0), v5) else if v5 = ((-2147483640 : Int32)) then some (i, a, g, (0, 0), v5) else ob0 (m_Heap_member n g i a v1 (v3 + v6)) (fun r_4 => ob (m_Heap_putMember n g i a v5 v6 r_4) (fun i_8 a_9 r_10 => ob1 (v6 + 1 : Int32) (fun x_13 => m_Deeds_without_b56 n f i_8 a_9 g v1 v3 v4 v5 x_13)))
set_option maxHeartbeats 4000000 in
set_option maxRecDepth 100000 in
theorem lb_Deeds_without_56 (l : Launch) (dC : Nat → ClassId) (dI : Nat → Nat → Nat) (cI : ClassId) (adK adV adA u : Nat → Nat) (n : Nat) {p : Program} {e : Env} {s : State} {m : MethodId} {args : Array Value} {below : List Frame} {meth : Method} {c : Code} {A : Nat → Prop} (hx : p.tables.exec = Jvm.exec) (hb : c.code = b_Deeds_without) (hml : c.maxLocals = 7) (hown : s.vm.findClass R_Deeds = some m.cls) (hts : ∀ w ∈ w_Deeds_without, w.before args s = true) (hK : va_K (dC, dI) classes [(cI, .int)] s) (hE : tw_E adK adV adA A s s.heap) (hA : ∀ q : Nat, s.heap.size ≤ q → A q) (hr : meth.sig.returnType = (some .int)) (hlocks : meth.locks = false) {mc ms : Nat} {i2 : Nat → Int32} {a2 : Nat → Nat → Int32} {g2 : Nat → Nat} {r2 : Int32} : ∀ (f : Nat) (i : Nat → Int32) (a : Nat → Nat → Int32) (g : Nat → Nat) (v1 : Int32) (v3 : Int32) (v4 : Int32) (v5 : Int32) (v6 : Int32) (k2 : Nat × Nat), m_Deeds_without_b56 n f i a g v1 v3 v4 v5 v6 = some (i2, a2, g2, k2, r2) → ∀ (o : Nat → Nat) (kc ks : Nat), kc + k2.1 = mc → ks + k2.2 = ms → ∀ (H : Heap) (locs : List Loc) (ls : Array Slot), va_P (dC, dI) classes (TW cI u o i a g) H → va_D A (TW cI u o i a g) → va_S A s.heap H locs → lv_has ls 7 [(0, .ref ((u 10))), (1, .int v1), (3, .int v3), (4, .int v4), (5, .int v5), (6, .int v6)] → W p l e ({ frames := 5, cells := mc, slots := ms, locals := 130 } : Room) s m args below meth c H locs kc ks (MQ below (va_Qi (xRg r2) (xBg dC dI cI u g2 i2 a2 A) A) args s mc ms A) (F0 m 56 ls []) := by
  have htt : ∀ w ∈ tw_T, w.before _ s = true := fun w h => hts w (List.mem_cons_of_mem _ h)
  intro f
  induction f with
  | zero =>
    intro i a g v1 v3 v4 v5 v6 k2 hm
    rw [m_Deeds_without_b56] at hm
    cases hm
  | succ f ih =>
    intro i a g v1 v3 v4 v5 v6 k2 hm o kc ks hkc hks H locs ls hP hD hS hl
    rw [m_Deeds_without_b56] at hm
    refine lv_iload hx hb d_Deeds_without_56 (lv_at hl 5 rfl) ?_
    refine lv_iload hx hb d_Deeds_without_58 (lv_at hl 3 rfl) ?_
    refine lv_icmp_ge (tgt := 99) hx hb d_Deeds_without_60 (by decide) (fun c_1 => ?_) (fun c_1 => ?_)
    · replace hm := if_t c_1 hm
      refine lv_iload hx hb d_Deeds_without_99 (lv_at hl 4 rfl) ?_
      obtain ⟨e1, e2, e4, e5, e6, e3⟩ := re5 hm
      obtain ⟨hP, hD⟩ := x_eqg e1 e2 e4 hP hD
      refine W.widen (k := mc) (n := ms) (show kc ≤ mc by omega) (show ks ≤ ms by omega) ?_
      exact W.iret hx hb hr (fun t9 ht hW => ⟨⟨_, o, rfl, e3.symm, by rw [ht]; exact hP, hD⟩, hS.F ht⟩) hS.2.2 d_Deeds_without_101
    · replace hm := if_f c_1 hm
      refine lv_iload hx hb d_Deeds_without_63 (lv_at hl 4 rfl) ?_
      refine lv_ldc (v := (-2147483640)) hx hb hown (htt _ lk_Deeds_202) d_Deeds_without_65 ?_
      refine lv_icmp_eq (tgt := 99) hx hb d_Deeds_without_67 (by decide) (fun c_2 => ?_) (fun c_2 => ?_)
      · replace hm := if_t c_2 hm
        refine lv_iload hx hb d_Deeds_without_99 (lv_at hl 4 rfl) ?_
        obtain ⟨e1, e2, e4, e5, e6, e3⟩ := re5 hm
        obtain ⟨hP, hD⟩ := x_eqg e1 e2 e4 hP hD
        refine W.widen (k := mc) (n := ms) (show kc ≤ mc by omega) (show ks ≤ ms by omega) ?_
        exact W.iret hx hb hr (fun t9 ht hW => ⟨⟨_, o, rfl, e3.symm, by rw [ht]; exact hP, hD⟩, hS.F ht⟩) hS.2.2 d_Deeds_without_101
      · replace hm := if_f c_2 hm
        refine lv_aload_n hx hb d_Deeds_without_70 rfl (lv_at hl 0 rfl) ?_
        refine va_get (D := (dC, dI)) (ci := 10) (v := .ref ((u 1))) (C := R_Deeds) (T := F_Deeds) (N := 8) hx hb htt iw_Deeds hown hK hP 10 xo_10 rfl 0 (Nat.le_of_ble_eq_true rfl) (htt _ lk_Deeds_15) (fun _ h9 => h9) xg_10_0 d_Deeds_without_71 ?_
        refine lv_iload hx hb d_Deeds_without_74 (lv_at hl 4 rfl) ?_
        refine lv_iload hx hb d_Deeds_without_76 (lv_at hl 5 rfl) ?_
        refine lv_aload_n hx hb d_Deeds_without_78 rfl (lv_at hl 0 rfl) ?_
        refine va_get (D := (dC, dI)) (ci := 10) (v := .ref ((u 1))) (C := R_Deeds) (T := F_Deeds) (N := 8) hx hb htt iw_Deeds hown hK hP 10 xo_10 rfl 0 (Nat.le_of_ble_eq_true rfl) (htt _ lk_Deeds_15) (fun _ h9 => h9) xg_10_0 d_Deeds_without_79 ?_
        refine lv_iload_n hx hb d_Deeds_without_82 rfl (lv_at hl 1 rfl) ?_
        refine lv_iload_n hx hb d_Deeds_without_83 rfl (lv_at hl 2 rfl) ?_
        refine lv_iload hx hb d_Deeds_without_84 (lv_at hl 5 rfl) ?_
        refine lv_iadd hx hb d_Deeds_without_86 ?_
        obtain ⟨r_4, h_3, hm⟩ := ob0_some hm
        have hFc := x_free0 hS hA
        refine xg_calli (va_runV (As := [.int v1, .int (v3 + v6)]) (rest := [.int v6, .int v5, .ref ((u 1))]) ⟨hx, hb, hml, hown, hts⟩ (x_Heap_member l dC dI cI adK adV adA u o g H.size n h_3) (cwV 2 hts (tw_GV tw_cons cw_Heap_member lk_Deeds_196 in_Heap_member sel_Heap_member ini_Heap) rfl rfl rfl ⟨rfl, hd_Heap_member⟩ ⟨Nat.le_of_ble_eq_true rfl, Nat.le_of_ble_eq_true rfl⟩) (xpVr hK hP hS hE hFc xo_1 rfl) rfl rfl hl.1 rfl (lv_room (Nat.le_of_ble_eq_true rfl)) d_Deeds_without_87 ⟨show kc + 0 ≤ mc by omega, show ks + 0 ≤ ms by omega⟩) hS (fun q _ h => hFc q h) hFc (fun kc_5 ks_6 r9 u9 t9 H locs ekc eks ht hvm e9 hB hz1 hk1 hS => ?_)
        replace hkc : kc_5 + k2.1 = mc := by omega
        replace hks : ks_6 + k2.2 = ms := by omega
        clear ekc eks
        have e9 : r_4 = r9 := e9
        subst e9
        replace hP := x_keep hP hk1
        clear hFc hk1 hz1 hvm hB ht
        obtain ⟨i_8, a_9, r_10, h_7, hm⟩ := ob_some hm
        have hFc := x_free hD hS hA
        refine xg_callv (va_runV (As := [.int v5, .int v6, .int r_4]) (rest := []) ⟨hx, hb, hml, hown, hts⟩ (x_Heap_putMember l dC dI cI adK adV adA u o g H.size n h_7) (cwV 3 hts (tw_GV tw_cons cw_Heap_putMember lk_Deeds_213 in_Heap_putMember sel_Heap_putMember ini_Heap) rfl rfl rfl ⟨rfl, hd_Heap_putMember⟩ ⟨Nat.le_of_ble_eq_true rfl, Nat.le_of_ble_eq_true rfl⟩) (xpV hK hP hD hS hE hFc xo_1 rfl) rfl rfl hl.1 rfl (lv_room (Nat.le_of_ble_eq_true rfl)) d_Deeds_without_90 ⟨show kc_5 + 0 ≤ mc by omega, show ks_6 + 0 ≤ ms by omega⟩) hS (fun q _ h => hFc q h) hFc (fun kc_11 ks_12 u9 t9 H locs ekc eks ht hvm e9 hB hz1 hk1 hS => ?_)
        replace hkc : kc_11 + k2.1 = mc := by omega
        replace hks : ks_12 + k2.2 = ms := by omega
        clear ekc eks
        obtain ⟨hP, hD⟩ := x_aft hB ht hFc
        clear hFc hk1 hz1 hvm hB ht
        obtain ⟨x_13, ex_13⟩ : ∃ y9 : Int32, y9 = v6 + 1 := ⟨_, rfl⟩
        replace hm := ob1_at ex_13 hm
        refine lv_iinc (v := x_13) (lv' := [(6, .int x_13), (0, .ref ((u 10))), (1, .int v1), (3, .int v3), (4, .int v4), (5, .int v5)]) hx hb d_Deeds_without_93 hl (k := 5) rfl (by rw [ex_13]; rfl) (by decide) rfl (fun ls hl => ?_)
        refine lv_goto (tgt := 56) hx hb d_Deeds_without_96 (by decide) ?_
        exact ih _ _ _ _ _ _ _ _ _ hm o kc_11 ks_12 hkc hks _ _ _ hP hD hS (lv_sub hl [1, 2, 3, 4, 5, 0] rfl)
def m_Deeds_without (n : Nat) (g : Nat → Nat) (i : Nat → Int32) (a : Nat → Nat → Int32) (v1 : Int32) (v2 : Int32) (v3 : Int32) : Option ((Nat → Int32) × (Nat → Nat → Int32) × (Nat → Nat) × (Nat × Nat) × Int32) := ob0 (m_Heap_count n g i a v1) (fun r_2 => ob1 (r_2 - 1 : Int32) (fun x_5 => if ((0 : Int32)) ≤ x_5 then ob0 (m_Heap_size n g i a v1) (fun r_8 => ob0 (m_Heap_member n g i a v1 v2) (fun r_12 => ob0 (m_Heap_size n g i a r_12) (fun r_16 => obG (m_Deeds_madeList n g i a x_5 (r_8 - r_16)) (fun i_20 a_21 g_22 r_24 => m_Deeds_without_b56 n n i_20 a_21 g_22 v1 v3 x_5 r_24 (0 : Int32))))) else some (i, a, g, (0, 0), (-2147483645))))
set_option maxHeartbeats 4000000 in
set_option maxRecDepth 100000 in
theorem x_Deeds_without (l : Launch) (dC : Nat → ClassId) (dI : Nat → Nat → Nat) (cI : ClassId) (adK adV adA u o g : Nat → Nat) (sz : Nat) (n : Nat) {i : Nat → Int32} {a : Nat → Nat → Int32} {v1 : Int32} {v2 : Int32} {v3 : Int32} {i2 : Nat → Int32} {a2 : Nat → Nat → Int32} {g2 : Nat → Nat} {k2 : Nat × Nat} {r2 : Int32} (hm : m_Deeds_without n g i a v1 v2 v3 = some (i2, a2, g2, k2, r2)) : Met l y_Deeds_without w_Deeds_without ({ frames := 5, cells := k2.1, slots := k2.2, locals := 130 } : Room) (va_Pc [.ref ((u 10)), .int v1, .int v2, .int v3] (xE dC dI cI adK adV adA u o g i a sz)) (va_Qi (xRg r2) (xBg dC dI cI u g2 i2 a2 (va_A (TW cI u o i a g) sz)) (va_A (TW cI u o i a g) sz)) k2.1 k2.2 ((va_A (TW cI u o i a g) sz)) := by
  refine Met.ofW (cc := b_Deeds_without) (maxL := 7) (ret := (some .int)) (by decide) rfl ?_
  intro p e s m args below meth c s₁ B hml hv
  obtain ⟨rfl, hsz, hP, hK, hE, hD0⟩ := hv
  have hx := B.exec
  have hb := B.bytes
  have hr := B.returns
  have hts := atoms_spec (ws := w_Deeds_without) B.pre
  have htt : ∀ w ∈ tw_T, w.before _ s = true := fun w h => hts w (List.mem_cons_of_mem _ h)
  have hown : s.vm.findClass R_Deeds = some m.cls := findClass_of_methodNamed B.named
  have hlocks := B.notSynchronized
  subst hsz
  have hD := hD0.self (sz := s.heap.size)
  generalize hAe : (va_A (TW cI u o i a g) s.heap.size) = A at hD hE ⊢
  have hA : ∀ q : Nat, s.heap.size ≤ q → A q := fun q h => by rw [← hAe]; exact Or.inr h
  have hS : va_S A s.heap s.heap [] := va_S.rf
  obtain ⟨mc, ms, emc, ems⟩ : ∃ mc ms : Nat, k2.1 = mc ∧ k2.2 = ms := ⟨_, _, rfl, rfl⟩
  have hkc : 0 + k2.1 = mc := by rw [Nat.zero_add]; exact emc
  have hks : 0 + k2.2 = ms := by rw [Nat.zero_add]; exact ems
  rw [emc, ems]
  clear emc ems
  have hl := lv_entry ([.ref ((u 10)), .int v1, .int v2, .int v3]) (n := 7) (Nat.le_of_ble_eq_true rfl)
  rw [lg_entry_eq]
  generalize (lg_sl ([.ref ((u 10)), .int v1, .int v2, .int v3]) ++ List.replicate (7 - (lg_sl ([.ref ((u 10)), .int v1, .int v2, .int v3])).length) Slot.unset).toArray = ls at hl ⊢
  have hl : lv_has ls 7 [(0, .ref ((u 10))), (1, .int v1), (2, .int v2), (3, .int v3)] := hl
  rw [m_Deeds_without] at hm
  refine lv_aload_n hx hb d_Deeds_without_0 rfl (lv_at hl 0 rfl) ?_
  refine va_get (D := (dC, dI)) (ci := 10) (v := .ref ((u 1))) (C := R_Deeds) (T := F_Deeds) (N := 8) hx hb htt iw_Deeds hown hK hP 10 xo_10 rfl 0 (Nat.le_of_ble_eq_true rfl) (htt _ lk_Deeds_15) (fun _ h9 => h9) xg_10_0 d_Deeds_without_1 ?_
  refine lv_iload_n hx hb d_Deeds_without_4 rfl (lv_at hl 1 rfl) ?_
  obtain ⟨r_2, h_1, hm⟩ := ob0_some hm
  have hFc := x_free0 hS hA
  refine xg_calli (va_runV (As := [.int v1]) (rest := []) ⟨hx, hb, hml, hown, hts⟩ (x_Heap_count l dC dI cI adK adV adA u o g s.heap.size n h_1) (cwV 1 hts (tw_GV tw_cons cw_Heap_count lk_Deeds_173 in_Heap_count sel_Heap_count ini_Heap) rfl rfl rfl ⟨rfl, hd_Heap_count⟩ ⟨Nat.le_of_ble_eq_true rfl, Nat.le_of_ble_eq_true rfl⟩) (xpVr hK hP hS hE hFc xo_1 rfl) rfl rfl hl.1 rfl (lv_room (Nat.le_of_ble_eq_true rfl)) d_Deeds_without_5 ⟨show 0 + 0 ≤ mc by omega, show 0 + 0 ≤ ms by omega⟩) hS (fun q _ h => hFc q h) hFc (fun kc_3 ks_4 r9 u9 t9 H locs ekc eks ht hvm e9 hB hz1 hk1 hS => ?_)
  replace hkc : kc_3 + k2.1 = mc := by omega
  replace hks : ks_4 + k2.2 = ms := by omega
  clear ekc eks
  have e9 : r_2 = r9 := e9
  subst e9
  replace hP := x_keep hP hk1
  clear hFc hk1 hz1 hvm hB ht
  refine lv_iconst (v := 1) hx hb d_Deeds_without_8 (by decide) ?_
  refine lv_isub hx hb d_Deeds_without_9 ?_
  refine lv_topi (fun x_5 ex_5 => ?_)
  replace hm := ob1_at ex_5 hm
  refine lv_istore (lv' := [(4, .int x_5), (0, .ref ((u 10))), (1, .int v1), (2, .int v2), (3, .int v3)]) hx hb d_Deeds_without_10 hl (by decide) rfl (fun ls hl => ?_)
  refine lv_iload hx hb d_Deeds_without_12 (lv_at hl 0 rfl) ?_
  refine lv_if_ge (tgt := 20) hx hb d_Deeds_without_14 (by decide) (fun c_6 => ?_) (fun c_6 => ?_)
  · replace hm := if_t c_6 hm
    refine lv_aload_n hx hb d_Deeds_without_20 rfl (lv_at hl 1 rfl) ?_
    refine lv_iload hx hb d_Deeds_without_21 (lv_at hl 0 rfl) ?_
    refine lv_aload_n hx hb d_Deeds_without_23 rfl (lv_at hl 1 rfl) ?_
    refine va_get (D := (dC, dI)) (ci := 10) (v := .ref ((u 1))) (C := R_Deeds) (T := F_Deeds) (N := 8) hx hb htt iw_Deeds hown hK hP 10 xo_10 rfl 0 (Nat.le_of_ble_eq_true rfl) (htt _ lk_Deeds_15) (fun _ h9 => h9) xg_10_0 d_Deeds_without_24 ?_
    refine lv_iload_n hx hb d_Deeds_without_27 rfl (lv_at hl 2 rfl) ?_
    obtain ⟨r_8, h_7, hm⟩ := ob0_some hm
    have hFc := x_free0 hS hA
    refine xg_calli (va_runV (As := [.int v1]) (rest := [.int x_5, .ref ((u 10))]) ⟨hx, hb, hml, hown, hts⟩ (x_Heap_size l dC dI cI adK adV adA u o g H.size n h_7) (cwV 1 hts (tw_GV tw_cons cw_Heap_size lk_Deeds_207 in_Heap_size sel_Heap_size ini_Heap) rfl rfl rfl ⟨rfl, hd_Heap_size⟩ ⟨Nat.le_of_ble_eq_true rfl, Nat.le_of_ble_eq_true rfl⟩) (xpVr hK hP hS hE hFc xo_1 rfl) rfl rfl hl.1 rfl (lv_room (Nat.le_of_ble_eq_true rfl)) d_Deeds_without_28 ⟨show kc_3 + 0 ≤ mc by omega, show ks_4 + 0 ≤ ms by omega⟩) hS (fun q _ h => hFc q h) hFc (fun kc_9 ks_10 r9 u9 t9 H locs ekc eks ht hvm e9 hB hz1 hk1 hS => ?_)
    replace hkc : kc_9 + k2.1 = mc := by omega
    replace hks : ks_10 + k2.2 = ms := by omega
    clear ekc eks
    have e9 : r_8 = r9 := e9
    subst e9
    replace hP := x_keep hP hk1
    clear hFc hk1 hz1 hvm hB ht
    refine lv_aload_n hx hb d_Deeds_without_31 rfl (lv_at hl 1 rfl) ?_
    refine va_get (D := (dC, dI)) (ci := 10) (v := .ref ((u 1))) (C := R_Deeds) (T := F_Deeds) (N := 8) hx hb htt iw_Deeds hown hK hP 10 xo_10 rfl 0 (Nat.le_of_ble_eq_true rfl) (htt _ lk_Deeds_15) (fun _ h9 => h9) xg_10_0 d_Deeds_without_32 ?_
    refine lv_aload_n hx hb d_Deeds_without_35 rfl (lv_at hl 1 rfl) ?_
    refine va_get (D := (dC, dI)) (ci := 10) (v := .ref ((u 1))) (C := R_Deeds) (T := F_Deeds) (N := 8) hx hb htt iw_Deeds hown hK hP 10 xo_10 rfl 0 (Nat.le_of_ble_eq_true rfl) (htt _ lk_Deeds_15) (fun _ h9 => h9) xg_10_0 d_Deeds_without_36 ?_
    refine lv_iload_n hx hb d_Deeds_without_39 rfl (lv_at hl 2 rfl) ?_
    refine lv_iload_n hx hb d_Deeds_without_40 rfl (lv_at hl 3 rfl) ?_
    obtain ⟨r_12, h_11, hm⟩ := ob0_some hm
    have hFc := x_free0 hS hA
    refine xg_calli (va_runV (As := [.int v1, .int v2]) (rest := [.ref ((u 1)), .int r_8, .int x_5, .ref ((u 10))]) ⟨hx, hb, hml, hown, hts⟩ (x_Heap_member l dC dI cI adK adV adA u o g H.size n h_11) (cwV 2 hts (tw_GV tw_cons cw_Heap_member lk_Deeds_196 in_Heap_member sel_Heap_member ini_Heap) rfl rfl rfl ⟨rfl, hd_Heap_member⟩ ⟨Nat.le_of_ble_eq_true rfl, Nat.le_of_ble_eq_true rfl⟩) (xpVr hK hP hS hE hFc xo_1 rfl) rfl rfl hl.1 rfl (lv_room (Nat.le_of_ble_eq_true rfl)) d_Deeds_without_41 ⟨show kc_9 + 0 ≤ mc by omega, show ks_10 + 0 ≤ ms by omega⟩) hS (fun q _ h => hFc q h) hFc (fun kc_13 ks_14 r9 u9 t9 H locs ekc eks ht hvm e9 hB hz1 hk1 hS => ?_)
    replace hkc : kc_13 + k2.1 = mc := by omega
    replace hks : ks_14 + k2.2 = ms := by omega
    clear ekc eks
    have e9 : r_12 = r9 := e9
    subst e9
    replace hP := x_keep hP hk1
    clear hFc hk1 hz1 hvm hB ht
    obtain ⟨r_16, h_15, hm⟩ := ob0_some hm
    have hFc := x_free0 hS hA
    refine xg_calli (va_runV (As := [.int r_12]) (rest := [.int r_8, .int x_5, .ref ((u 10))]) ⟨hx, hb, hml, hown, hts⟩ (x_Heap_size l dC dI cI adK adV adA u o g H.size n h_15) (cwV 1 hts (tw_GV tw_cons cw_Heap_size lk_Deeds_207 in_Heap_size sel_Heap_size ini_Heap) rfl rfl rfl ⟨rfl, hd_Heap_size⟩ ⟨Nat.le_of_ble_eq_true rfl, Nat.le_of_ble_eq_true rfl⟩) (xpVr hK hP hS hE hFc xo_1 rfl) rfl rfl hl.1 rfl (lv_room (Nat.le_of_ble_eq_true rfl)) d_Deeds_without_44 ⟨show kc_13 + 0 ≤ mc by omega, show ks_14 + 0 ≤ ms by omega⟩) hS (fun q _ h => hFc q h) hFc (fun kc_17 ks_18 r9 u9 t9 H locs ekc eks ht hvm e9 hB hz1 hk1 hS => ?_)
    replace hkc : kc_17 + k2.1 = mc := by omega
    replace hks : ks_18 + k2.2 = ms := by omega
    clear ekc eks
    have e9 : r_16 = r9 := e9
    subst e9
    replace hP := x_keep hP hk1
    clear hFc hk1 hz1 hvm hB ht
    refine lv_isub hx hb d_Deeds_without_47 ?_
    obtain ⟨i_20, a_21, g_22, k_23, r_24, k_25, h_19, hm, e7, e8⟩ := obG_some hm
    have hFc := x_free hD hS hA
    refine xg_calli (va_runV (As := [.int x_5, .int (r_8 - r_16)]) (rest := []) ⟨hx, hb, hml, hown, hts⟩ (x_Deeds_madeList l dC dI cI adK adV adA u o g H.size n h_19) (cwV 2 hts (tw_GV tw_cons cw_Deeds_madeList lk_Deeds_210 in_Deeds_madeList sel_Deeds_madeList ini_Deeds) rfl rfl rfl ⟨rfl, hd_Deeds_madeList⟩ ⟨Nat.le_of_ble_eq_true rfl, Nat.le_of_ble_eq_true rfl⟩) (xpV hK hP hD hS hE hFc xo_10 rfl) rfl rfl hl.1 rfl (lv_room (Nat.le_of_ble_eq_true rfl)) d_Deeds_without_48 ⟨show kc_17 + k_23.1 ≤ mc by omega, show ks_18 + k_23.2 ≤ ms by omega⟩) hS (fun q _ h => hFc q h) hFc (fun kc_27 ks_28 r9 o_26 t9 H locs ekc eks ht hvm e9 hB hz1 hk1 hS => ?_)
    replace hkc : kc_27 + k_25.1 = mc := by omega
    replace hks : ks_28 + k_25.2 = ms := by omega
    clear e7 e8
    clear ekc eks
    have e9 : r_24 = r9 := e9
    subst e9
    obtain ⟨hP, hD⟩ := x_aftg hB ht hFc
    clear hFc hk1 hz1 hvm hB ht
    refine lv_istore (lv' := [(5, .int r_24), (4, .int x_5), (0, .ref ((u 10))), (1, .int v1), (2, .int v2), (3, .int v3)]) hx hb d_Deeds_without_51 hl (by decide) rfl (fun ls hl => ?_)
    refine lv_iconst (v := 0) hx hb d_Deeds_without_53 (by decide) ?_
    refine lv_istore (lv' := [(6, .int 0), (5, .int r_24), (4, .int x_5), (0, .ref ((u 10))), (1, .int v1), (2, .int v2), (3, .int v3)]) hx hb d_Deeds_without_54 hl (by decide) rfl (fun ls hl => ?_)
    exact lb_Deeds_without_56 l dC dI cI adK adV adA u n hx hb hml hown hts hK hE hA hr hlocks n _ _ _ _ _ _ _ _ _ hm o_26 kc_27 ks_28 hkc hks _ _ _ hP hD hS (lv_sub hl [3, 4, 6, 2, 1, 0] rfl)
  · replace hm := if_f c_6 hm
    refine lv_ldc (v := (-2147483645)) hx hb hown (htt _ lk_Deeds_146) d_Deeds_without_17 ?_
    obtain ⟨e1, e2, e4, e5, e6, e3⟩ := re5 hm
    obtain ⟨hP, hD⟩ := x_eqg e1 e2 e4 hP hD
    refine W.widen (k := mc) (n := ms) (show kc_3 ≤ mc by omega) (show ks_4 ≤ ms by omega) ?_
    exact W.iret hx hb hr (fun t9 ht hW => ⟨⟨_, o, rfl, e3.symm, by rw [ht]; exact hP, hD⟩, hS.F ht⟩) hS.2.2 d_Deeds_without_19

def m_Deeds_join_b187 (n : Nat) (rc_150 : (Nat → Int32) → (Nat → Nat → Int32) → (Nat → Nat) → Int32 → Int32 → Int32 → Int32 → Int32 → Int32 → Option ((Nat → Int32) × (Nat → Nat → Int32) × (Nat → Nat) × (Nat × Nat) × Int32)) (i : Nat → Int32) (a : Nat → Nat → Int32) (g : Nat → Nat) (v3 : Int32) (v4 : Int32) (v5 : Int32) (v6 : Int32) (v8 : Int32) (v9 : Int32) (s0 : Int32) (s1 : Int32) (s2 : Int32) : Option ((Nat → Int32) × (Nat → Nat → Int32) × (Nat → Nat) × (Nat × Nat) × Int32) := ob (m_Heap_putMember n g i a s2 s1 s0) (fun i_2 a_3 r_4 => ob1 (v9 + 1 : Int32) (fun x_7 => rc_150 i_2 a_3 g v3 v4 v5 v6 v8 x_7))
set_option maxHeartbeats 4000000 in
set_option maxRecDepth 100000 in
theorem lb_Deeds_join_187 (l : Launch) (dC : Nat → ClassId) (dI : Nat → Nat → Nat) (cI : ClassId) (adK adV adA u : Nat → Nat) (n : Nat) {p : Program} {e : Env} {s : State} {m : MethodId} {args : Array Value} {below : List Frame} {meth : Method} {c : Code} {A : Nat → Prop} (hx : p.tables.exec = Jvm.exec) (hb : c.code = b_Deeds_join) (hml : c.maxLocals = 10) (hown : s.vm.findClass R_Deeds = some m.cls) (hts : ∀ w ∈ w_Deeds_join, w.before args s = true) (hK : va_K (dC, dI) classes [(cI, .int)] s) (hE : tw_E adK adV adA A s s.heap) (hA : ∀ q : Nat, s.heap.size ≤ q → A q) (hr : meth.sig.returnType = (some .int)) (hlocks : meth.locks = false) {mc ms : Nat} {i2 : Nat → Int32} {a2 : Nat → Nat → Int32} {g2 : Nat → Nat} {r2 : Int32} (rc_150 : (Nat → Int32) → (Nat → Nat → Int32) → (Nat → Nat) → Int32 → Int32 → Int32 → Int32 → Int32 → Int32 → Option ((Nat → Int32) × (Nat → Nat → Int32) × (Nat → Nat) × (Nat × Nat) × Int32)) (Hrc_150 : ∀ (i : Nat → Int32) (a : Nat → Nat → Int32) (g : Nat → Nat) (v3 : Int32) (v4 : Int32) (v5 : Int32) (v6 : Int32) (v8 : Int32) (v9 : Int32) (k2 : Nat × Nat), rc_150 i a g v3 v4 v5 v6 v8 v9 = some (i2, a2, g2, k2, r2) → ∀ (o : Nat → Nat) (kc ks : Nat), kc + k2.1 = mc → ks + k2.2 = ms → ∀ (H : Heap) (locs : List Loc) (ls : Array Slot), va_P (dC, dI) classes (TW cI u o i a g) H → va_D A (TW cI u o i a g) → va_S A s.heap H locs → lv_has ls 10 [(0, .ref ((u 10))), (3, .int v3), (4, .int v4), (5, .int v5), (6, .int v6), (8, .int v8), (9, .int v9)] → W p l e ({ frames := 5, cells := mc, slots := ms, locals := 130 } : Room) s m args below meth c H locs kc ks (MQ below (va_Qi (xRg r2) (xBg dC dI cI u g2 i2 a2 A) A) args s mc ms A) (F0 m 150 ls [])) (i : Nat → Int32) (a : Nat → Nat → Int32) (g : Nat → Nat) (v3 : Int32) (v4 : Int32) (v5 : Int32) (v6 : Int32) (v8 : Int32) (v9 : Int32) (s0 : Int32) (s1 : Int32) (s2 : Int32) (k2 : Nat × Nat) (hm : m_Deeds_join_b187 n rc_150 i a g v3 v4 v5 v6 v8 v9 s0 s1 s2 = some (i2, a2, g2, k2, r2)) : ∀ (o : Nat → Nat) (kc ks : Nat), kc + k2.1 = mc → ks + k2.2 = ms → ∀ (H : Heap) (locs : List Loc) (ls : Array Slot), va_P (dC, dI) classes (TW cI u o i a g) H → va_D A (TW cI u o i a g) → va_S A s.heap H locs → lv_has ls 10 [(0, .ref ((u 10))), (3, .int v3), (4, .int v4), (5, .int v5), (6, .int v6), (8, .int v8), (9, .int v9)] → W p l e ({ frames := 5, cells := mc, slots := ms, locals := 130 } : Room) s m args below meth c H locs kc ks (MQ below (va_Qi (xRg r2) (xBg dC dI cI u g2 i2 a2 A) A) args s mc ms A) (F0 m 187 ls [.int s0, .int s1, .int s2, .ref ((u 1))]) := by
  have htt : ∀ w ∈ tw_T, w.before _ s = true := fun w h => hts w (List.mem_cons_of_mem _ h)
  intro o kc ks hkc hks H locs ls hP hD hS hl
  rw [m_Deeds_join_b187] at hm
  obtain ⟨i_2, a_3, r_4, h_1, hm⟩ := ob_some hm
  have hFc := x_free hD hS hA
  refine xg_callv (va_runV (As := [.int s2, .int s1, .int s0]) (rest := []) ⟨hx, hb, hml, hown, hts⟩ (x_Heap_putMember l dC dI cI adK adV adA u o g H.size n h_1) (cwV 3 hts (tw_GV tw_cons cw_Heap_putMember lk_Deeds_213 in_Heap_putMember sel_Heap_putMember ini_Heap) rfl rfl rfl ⟨rfl, hd_Heap_putMember⟩ ⟨Nat.le_of_ble_eq_true rfl, Nat.le_of_ble_eq_true rfl⟩) (xpV hK hP hD hS hE hFc xo_1 rfl) rfl rfl hl.1 rfl (lv_room (Nat.le_of_ble_eq_true rfl)) d_Deeds_join_187 ⟨show kc + 0 ≤ mc by omega, show ks + 0 ≤ ms by omega⟩) hS (fun q _ h => hFc q h) hFc (fun kc_5 ks_6 u9 t9 H locs ekc eks ht hvm e9 hB hz1 hk1 hS => ?_)
  replace hkc : kc_5 + k2.1 = mc := by omega
  replace hks : ks_6 + k2.2 = ms := by omega
  clear ekc eks
  obtain ⟨hP, hD⟩ := x_aft hB ht hFc
  clear hFc hk1 hz1 hvm hB ht
  obtain ⟨x_7, ex_7⟩ : ∃ y9 : Int32, y9 = v9 + 1 := ⟨_, rfl⟩
  replace hm := ob1_at ex_7 hm
  refine lv_iinc (v := x_7) (lv' := [(9, .int x_7), (0, .ref ((u 10))), (3, .int v3), (4, .int v4), (5, .int v5), (6, .int v6), (8, .int v8)]) hx hb d_Deeds_join_190 hl (k := 6) rfl (by rw [ex_7]; rfl) (by decide) rfl (fun ls hl => ?_)
  refine lv_goto (tgt := 150) hx hb d_Deeds_join_193 (by decide) ?_
  exact Hrc_150 _ _ _ _ _ _ _ _ _ _ hm o kc_5 ks_6 hkc hks _ _ _ hP hD hS (lv_sub hl [1, 2, 3, 4, 5, 6, 0] rfl)
def m_Deeds_join_b150 (n : Nat) : Nat → (Nat → Int32) → (Nat → Nat → Int32) → (Nat → Nat) → Int32 → Int32 → Int32 → Int32 → Int32 → Int32 → Option ((Nat → Int32) × (Nat → Nat → Int32) × (Nat → Nat) × (Nat × Nat) × Int32)
  | 0, _, _, _, _, _, _, _, _, _ => none
  | f + 1, i, a, g, v3, v4, v5, v6, v8, v9 => if v6 ≤ v9 then some (i, a, g, (0, 0), v8) else if v4 = ((0 : Int32)) then ob0 (m_Heap_member n g i a v3 v9) (fun r_4 => m_Deeds_join_b187 n (m_Deeds_join_b150 n f) i a g v3 v4 v5 v6 v8 v9 r_4 (v5 + v9) v8) else m_Deeds_join_b187 n (m_Deeds_join_b150 n f) i a g v3 v4 v5 v6 v8 v9 v3 (v5 + v9) v8
set_option maxHeartbeats 4000000 in
set_option maxRecDepth 100000 in
theorem lb_Deeds_join_150 (l : Launch) (dC : Nat → ClassId) (dI : Nat → Nat → Nat) (cI : ClassId) (adK adV adA u : Nat → Nat) (n : Nat) {p : Program} {e : Env} {s : State} {m : MethodId} {args : Array Value} {below : List Frame} {meth : Method} {c : Code} {A : Nat → Prop} (hx : p.tables.exec = Jvm.exec) (hb : c.code = b_Deeds_join) (hml : c.maxLocals = 10) (hown : s.vm.findClass R_Deeds = some m.cls) (hts : ∀ w ∈ w_Deeds_join, w.before args s = true) (hK : va_K (dC, dI) classes [(cI, .int)] s) (hE : tw_E adK adV adA A s s.heap) (hA : ∀ q : Nat, s.heap.size ≤ q → A q) (hr : meth.sig.returnType = (some .int)) (hlocks : meth.locks = false) {mc ms : Nat} {i2 : Nat → Int32} {a2 : Nat → Nat → Int32} {g2 : Nat → Nat} {r2 : Int32} : ∀ (f : Nat) (i : Nat → Int32) (a : Nat → Nat → Int32) (g : Nat → Nat) (v3 : Int32) (v4 : Int32) (v5 : Int32) (v6 : Int32) (v8 : Int32) (v9 : Int32) (k2 : Nat × Nat), m_Deeds_join_b150 n f i a g v3 v4 v5 v6 v8 v9 = some (i2, a2, g2, k2, r2) → ∀ (o : Nat → Nat) (kc ks : Nat), kc + k2.1 = mc → ks + k2.2 = ms → ∀ (H : Heap) (locs : List Loc) (ls : Array Slot), va_P (dC, dI) classes (TW cI u o i a g) H → va_D A (TW cI u o i a g) → va_S A s.heap H locs → lv_has ls 10 [(0, .ref ((u 10))), (3, .int v3), (4, .int v4), (5, .int v5), (6, .int v6), (8, .int v8), (9, .int v9)] → W p l e ({ frames := 5, cells := mc, slots := ms, locals := 130 } : Room) s m args below meth c H locs kc ks (MQ below (va_Qi (xRg r2) (xBg dC dI cI u g2 i2 a2 A) A) args s mc ms A) (F0 m 150 ls []) := by
  have htt : ∀ w ∈ tw_T, w.before _ s = true := fun w h => hts w (List.mem_cons_of_mem _ h)
  intro f
  induction f with
  | zero =>
    intro i a g v3 v4 v5 v6 v8 v9 k2 hm
    rw [m_Deeds_join_b150] at hm
    cases hm
  | succ f ih =>
    intro i a g v3 v4 v5 v6 v8 v9 k2 hm o kc ks hkc hks H locs ls hP hD hS hl
    rw [m_Deeds_join_b150] at hm
    refine lv_iload hx hb d_Deeds_join_150 (lv_at hl 6 rfl) ?_
    refine lv_iload hx hb d_Deeds_join_152 (lv_at hl 4 rfl) ?_
    refine lv_icmp_ge (tgt := 196) hx hb d_Deeds_join_154 (by decide) (fun c_1 => ?_) (fun c_1 => ?_)
    · replace hm := if_t c_1 hm
      refine lv_iload hx hb d_Deeds_join_196 (lv_at hl 5 rfl) ?_
      obtain ⟨e1, e2, e4, e5, e6, e3⟩ := re5 hm
      obtain ⟨hP, hD⟩ := x_eqg e1 e2 e4 hP hD
      refine W.widen (k := mc) (n := ms) (show kc ≤ mc by omega) (show ks ≤ ms by omega) ?_
      exact W.iret hx hb hr (fun t9 ht hW => ⟨⟨_, o, rfl, e3.symm, by rw [ht]; exact hP, hD⟩, hS.F ht⟩) hS.2.2 d_Deeds_join_198
    · replace hm := if_f c_1 hm
      refine lv_aload_n hx hb d_Deeds_join_157 rfl (lv_at hl 0 rfl) ?_
      refine va_get (D := (dC, dI)) (ci := 10) (v := .ref ((u 1))) (C := R_Deeds) (T := F_Deeds) (N := 8) hx hb htt iw_Deeds hown hK hP 10 xo_10 rfl 0 (Nat.le_of_ble_eq_true rfl) (htt _ lk_Deeds_15) (fun _ h9 => h9) xg_10_0 d_Deeds_join_158 ?_
      refine lv_iload hx hb d_Deeds_join_161 (lv_at hl 5 rfl) ?_
      refine lv_iload hx hb d_Deeds_join_163 (lv_at hl 3 rfl) ?_
      refine lv_iload hx hb d_Deeds_join_165 (lv_at hl 6 rfl) ?_
      refine lv_iadd hx hb d_Deeds_join_167 ?_
      refine lv_iload hx hb d_Deeds_join_168 (lv_at hl 2 rfl) ?_
      refine lv_if_eq (tgt := 177) hx hb d_Deeds_join_170 (by decide) (fun c_2 => ?_) (fun c_2 => ?_)
      · replace hm := if_t c_2 hm
        refine lv_aload_n hx hb d_Deeds_join_177 rfl (lv_at hl 0 rfl) ?_
        refine va_get (D := (dC, dI)) (ci := 10) (v := .ref ((u 1))) (C := R_Deeds) (T := F_Deeds) (N := 8) hx hb htt iw_Deeds hown hK hP 10 xo_10 rfl 0 (Nat.le_of_ble_eq_true rfl) (htt _ lk_Deeds_15) (fun _ h9 => h9) xg_10_0 d_Deeds_join_178 ?_
        refine lv_iload_n hx hb d_Deeds_join_181 rfl (lv_at hl 1 rfl) ?_
        refine lv_iload hx hb d_Deeds_join_182 (lv_at hl 6 rfl) ?_
        obtain ⟨r_4, h_3, hm⟩ := ob0_some hm
        have hFc := x_free0 hS hA
        refine xg_calli (va_runV (As := [.int v3, .int v9]) (rest := [.int (v5 + v9), .int v8, .ref ((u 1))]) ⟨hx, hb, hml, hown, hts⟩ (x_Heap_member l dC dI cI adK adV adA u o g H.size n h_3) (cwV 2 hts (tw_GV tw_cons cw_Heap_member lk_Deeds_196 in_Heap_member sel_Heap_member ini_Heap) rfl rfl rfl ⟨rfl, hd_Heap_member⟩ ⟨Nat.le_of_ble_eq_true rfl, Nat.le_of_ble_eq_true rfl⟩) (xpVr hK hP hS hE hFc xo_1 rfl) rfl rfl hl.1 rfl (lv_room (Nat.le_of_ble_eq_true rfl)) d_Deeds_join_184 ⟨show kc + 0 ≤ mc by omega, show ks + 0 ≤ ms by omega⟩) hS (fun q _ h => hFc q h) hFc (fun kc_5 ks_6 r9 u9 t9 H locs ekc eks ht hvm e9 hB hz1 hk1 hS => ?_)
        replace hkc : kc_5 + k2.1 = mc := by omega
        replace hks : ks_6 + k2.2 = ms := by omega
        clear ekc eks
        have e9 : r_4 = r9 := e9
        subst e9
        replace hP := x_keep hP hk1
        clear hFc hk1 hz1 hvm hB ht
        exact lb_Deeds_join_187 l dC dI cI adK adV adA u n hx hb hml hown hts hK hE hA hr hlocks (m_Deeds_join_b150 n f) ih _ _ _ _ _ _ _ _ _ _ _ _ _ hm o kc_5 ks_6 hkc hks _ _ _ hP hD hS (lv_sub hl [0, 1, 2, 3, 4, 5, 6] rfl)
      · replace hm := if_f c_2 hm
        refine lv_iload_n hx hb d_Deeds_join_173 rfl (lv_at hl 1 rfl) ?_
        refine lv_goto (tgt := 187) hx hb d_Deeds_join_174 (by decide) ?_
        exact lb_Deeds_join_187 l dC dI cI adK adV adA u n hx hb hml hown hts hK hE hA hr hlocks (m_Deeds_join_b150 n f) ih _ _ _ _ _ _ _ _ _ _ _ _ _ hm o kc ks hkc hks _ _ _ hP hD hS (lv_sub hl [0, 1, 2, 3, 4, 5, 6] rfl)
def m_Deeds_join_b138 (n : Nat) (rc_105 : (Nat → Int32) → (Nat → Nat → Int32) → (Nat → Nat) → Int32 → Int32 → Int32 → Int32 → Int32 → Int32 → Int32 → Int32 → Option ((Nat → Int32) × (Nat → Nat → Int32) × (Nat → Nat) × (Nat × Nat) × Int32)) (i : Nat → Int32) (a : Nat → Nat → Int32) (g : Nat → Nat) (v1 : Int32) (v2 : Int32) (v3 : Int32) (v4 : Int32) (v5 : Int32) (v6 : Int32) (v8 : Int32) (v9 : Int32) (s0 : Int32) (s1 : Int32) (s2 : Int32) : Option ((Nat → Int32) × (Nat → Nat → Int32) × (Nat → Nat) × (Nat × Nat) × Int32) := ob (m_Heap_putMember n g i a s2 s1 s0) (fun i_2 a_3 r_4 => ob1 (v9 + 1 : Int32) (fun x_7 => rc_105 i_2 a_3 g v1 v2 v3 v4 v5 v6 v8 x_7))
set_option maxHeartbeats 4000000 in
set_option maxRecDepth 100000 in
theorem lb_Deeds_join_138 (l : Launch) (dC : Nat → ClassId) (dI : Nat → Nat → Nat) (cI : ClassId) (adK adV adA u : Nat → Nat) (n : Nat) {p : Program} {e : Env} {s : State} {m : MethodId} {args : Array Value} {below : List Frame} {meth : Method} {c : Code} {A : Nat → Prop} (hx : p.tables.exec = Jvm.exec) (hb : c.code = b_Deeds_join) (hml : c.maxLocals = 10) (hown : s.vm.findClass R_Deeds = some m.cls) (hts : ∀ w ∈ w_Deeds_join, w.before args s = true) (hK : va_K (dC, dI) classes [(cI, .int)] s) (hE : tw_E adK adV adA A s s.heap) (hA : ∀ q : Nat, s.heap.size ≤ q → A q) (hr : meth.sig.returnType = (some .int)) (hlocks : meth.locks = false) {mc ms : Nat} {i2 : Nat → Int32} {a2 : Nat → Nat → Int32} {g2 : Nat → Nat} {r2 : Int32} (rc_105 : (Nat → Int32) → (Nat → Nat → Int32) → (Nat → Nat) → Int32 → Int32 → Int32 → Int32 → Int32 → Int32 → Int32 → Int32 → Option ((Nat → Int32) × (Nat → Nat → Int32) × (Nat → Nat) × (Nat × Nat) × Int32)) (Hrc_105 : ∀ (i : Nat → Int32) (a : Nat → Nat → Int32) (g : Nat → Nat) (v1 : Int32) (v2 : Int32) (v3 : Int32) (v4 : Int32) (v5 : Int32) (v6 : Int32) (v8 : Int32) (v9 : Int32) (k2 : Nat × Nat), rc_105 i a g v1 v2 v3 v4 v5 v6 v8 v9 = some (i2, a2, g2, k2, r2) → ∀ (o : Nat → Nat) (kc ks : Nat), kc + k2.1 = mc → ks + k2.2 = ms → ∀ (H : Heap) (locs : List Loc) (ls : Array Slot), va_P (dC, dI) classes (TW cI u o i a g) H → va_D A (TW cI u o i a g) → va_S A s.heap H locs → lv_has ls 10 [(0, .ref ((u 10))), (1, .int v1), (2, .int v2), (3, .int v3), (4, .int v4), (5, .int v5), (6, .int v6), (8, .int v8), (9, .int v9)] → W p l e ({ frames := 5, cells := mc, slots := ms, locals := 130 } : Room) s m args below meth c H locs kc ks (MQ below (va_Qi (xRg r2) (xBg dC dI cI u g2 i2 a2 A) A) args s mc ms A) (F0 m 105 ls [])) (i : Nat → Int32) (a : Nat → Nat → Int32) (g : Nat → Nat) (v1 : Int32) (v2 : Int32) (v3 : Int32) (v4 : Int32) (v5 : Int32) (v6 : Int32) (v8 : Int32) (v9 : Int32) (s0 : Int32) (s1 : Int32) (s2 : Int32) (k2 : Nat × Nat) (hm : m_Deeds_join_b138 n rc_105 i a g v1 v2 v3 v4 v5 v6 v8 v9 s0 s1 s2 = some (i2, a2, g2, k2, r2)) : ∀ (o : Nat → Nat) (kc ks : Nat), kc + k2.1 = mc → ks + k2.2 = ms → ∀ (H : Heap) (locs : List Loc) (ls : Array Slot), va_P (dC, dI) classes (TW cI u o i a g) H → va_D A (TW cI u o i a g) → va_S A s.heap H locs → lv_has ls 10 [(0, .ref ((u 10))), (1, .int v1), (2, .int v2), (3, .int v3), (4, .int v4), (5, .int v5), (6, .int v6), (8, .int v8), (9, .int v9)] → W p l e ({ frames := 5, cells := mc, slots := ms, locals := 130 } : Room) s m args below meth c H locs kc ks (MQ below (va_Qi (xRg r2) (xBg dC dI cI u g2 i2 a2 A) A) args s mc ms A) (F0 m 138 ls [.int s0, .int s1, .int s2, .ref ((u 1))]) := by
  have htt : ∀ w ∈ tw_T, w.before _ s = true := fun w h => hts w (List.mem_cons_of_mem _ h)
  intro o kc ks hkc hks H locs ls hP hD hS hl
  rw [m_Deeds_join_b138] at hm
  obtain ⟨i_2, a_3, r_4, h_1, hm⟩ := ob_some hm
  have hFc := x_free hD hS hA
  refine xg_callv (va_runV (As := [.int s2, .int s1, .int s0]) (rest := []) ⟨hx, hb, hml, hown, hts⟩ (x_Heap_putMember l dC dI cI adK adV adA u o g H.size n h_1) (cwV 3 hts (tw_GV tw_cons cw_Heap_putMember lk_Deeds_213 in_Heap_putMember sel_Heap_putMember ini_Heap) rfl rfl rfl ⟨rfl, hd_Heap_putMember⟩ ⟨Nat.le_of_ble_eq_true rfl, Nat.le_of_ble_eq_true rfl⟩) (xpV hK hP hD hS hE hFc xo_1 rfl) rfl rfl hl.1 rfl (lv_room (Nat.le_of_ble_eq_true rfl)) d_Deeds_join_138 ⟨show kc + 0 ≤ mc by omega, show ks + 0 ≤ ms by omega⟩) hS (fun q _ h => hFc q h) hFc (fun kc_5 ks_6 u9 t9 H locs ekc eks ht hvm e9 hB hz1 hk1 hS => ?_)
  replace hkc : kc_5 + k2.1 = mc := by omega
  replace hks : ks_6 + k2.2 = ms := by omega
  clear ekc eks
  obtain ⟨hP, hD⟩ := x_aft hB ht hFc
  clear hFc hk1 hz1 hvm hB ht
  obtain ⟨x_7, ex_7⟩ : ∃ y9 : Int32, y9 = v9 + 1 := ⟨_, rfl⟩
  replace hm := ob1_at ex_7 hm
  refine lv_iinc (v := x_7) (lv' := [(9, .int x_7), (0, .ref ((u 10))), (1, .int v1), (2, .int v2), (3, .int v3), (4, .int v4), (5, .int v5), (6, .int v6), (8, .int v8)]) hx hb d_Deeds_join_141 hl (k := 8) rfl (by rw [ex_7]; rfl) (by decide) rfl (fun ls hl => ?_)
  refine lv_goto (tgt := 105) hx hb d_Deeds_join_144 (by decide) ?_
  exact Hrc_105 _ _ _ _ _ _ _ _ _ _ _ _ hm o kc_5 ks_6 hkc hks _ _ _ hP hD hS (lv_sub hl [1, 2, 3, 4, 5, 6, 7, 8, 0] rfl)
def m_Deeds_join_b105 (n : Nat) : Nat → (Nat → Int32) → (Nat → Nat → Int32) → (Nat → Nat) → Int32 → Int32 → Int32 → Int32 → Int32 → Int32 → Int32 → Int32 → Option ((Nat → Int32) × (Nat → Nat → Int32) × (Nat → Nat) × (Nat × Nat) × Int32)
  | 0, _, _, _, _, _, _, _, _, _, _, _ => none
  | f + 1, i, a, g, v1, v2, v3, v4, v5, v6, v8, v9 => if v5 ≤ v9 then m_Deeds_join_b150 n n i a g v3 v4 v5 v6 v8 (0 : Int32) else if v2 = ((0 : Int32)) then ob0 (m_Heap_member n g i a v1 v9) (fun r_4 => m_Deeds_join_b138 n (m_Deeds_join_b105 n f) i a g v1 v2 v3 v4 v5 v6 v8 v9 r_4 v9 v8) else m_Deeds_join_b138 n (m_Deeds_join_b105 n f) i a g v1 v2 v3 v4 v5 v6 v8 v9 v1 v9 v8
set_option maxHeartbeats 4000000 in
set_option maxRecDepth 100000 in
theorem lb_Deeds_join_105 (l : Launch) (dC : Nat → ClassId) (dI : Nat → Nat → Nat) (cI : ClassId) (adK adV adA u : Nat → Nat) (n : Nat) {p : Program} {e : Env} {s : State} {m : MethodId} {args : Array Value} {below : List Frame} {meth : Method} {c : Code} {A : Nat → Prop} (hx : p.tables.exec = Jvm.exec) (hb : c.code = b_Deeds_join) (hml : c.maxLocals = 10) (hown : s.vm.findClass R_Deeds = some m.cls) (hts : ∀ w ∈ w_Deeds_join, w.before args s = true) (hK : va_K (dC, dI) classes [(cI, .int)] s) (hE : tw_E adK adV adA A s s.heap) (hA : ∀ q : Nat, s.heap.size ≤ q → A q) (hr : meth.sig.returnType = (some .int)) (hlocks : meth.locks = false) {mc ms : Nat} {i2 : Nat → Int32} {a2 : Nat → Nat → Int32} {g2 : Nat → Nat} {r2 : Int32} : ∀ (f : Nat) (i : Nat → Int32) (a : Nat → Nat → Int32) (g : Nat → Nat) (v1 : Int32) (v2 : Int32) (v3 : Int32) (v4 : Int32) (v5 : Int32) (v6 : Int32) (v8 : Int32) (v9 : Int32) (k2 : Nat × Nat), m_Deeds_join_b105 n f i a g v1 v2 v3 v4 v5 v6 v8 v9 = some (i2, a2, g2, k2, r2) → ∀ (o : Nat → Nat) (kc ks : Nat), kc + k2.1 = mc → ks + k2.2 = ms → ∀ (H : Heap) (locs : List Loc) (ls : Array Slot), va_P (dC, dI) classes (TW cI u o i a g) H → va_D A (TW cI u o i a g) → va_S A s.heap H locs → lv_has ls 10 [(0, .ref ((u 10))), (1, .int v1), (2, .int v2), (3, .int v3), (4, .int v4), (5, .int v5), (6, .int v6), (8, .int v8), (9, .int v9)] → W p l e ({ frames := 5, cells := mc, slots := ms, locals := 130 } : Room) s m args below meth c H locs kc ks (MQ below (va_Qi (xRg r2) (xBg dC dI cI u g2 i2 a2 A) A) args s mc ms A) (F0 m 105 ls []) := by
  have htt : ∀ w ∈ tw_T, w.before _ s = true := fun w h => hts w (List.mem_cons_of_mem _ h)
  intro f
  induction f with
  | zero =>
    intro i a g v1 v2 v3 v4 v5 v6 v8 v9 k2 hm
    rw [m_Deeds_join_b105] at hm
    cases hm
  | succ f ih =>
    intro i a g v1 v2 v3 v4 v5 v6 v8 v9 k2 hm o kc ks hkc hks H locs ls hP hD hS hl
    rw [m_Deeds_join_b105] at hm
    refine lv_iload hx hb d_Deeds_join_105 (lv_at hl 8 rfl) ?_
    refine lv_iload hx hb d_Deeds_join_107 (lv_at hl 5 rfl) ?_
    refine lv_icmp_ge (tgt := 147) hx hb d_Deeds_join_109 (by decide) (fun c_1 => ?_) (fun c_1 => ?_)
    · replace hm := if_t c_1 hm
      refine lv_iconst (v := 0) hx hb d_Deeds_join_147 (by decide) ?_
      refine lv_istore (lv' := [(9, .int 0), (0, .ref ((u 10))), (1, .int v1), (2, .int v2), (3, .int v3), (4, .int v4), (5, .int v5), (6, .int v6), (8, .int v8)]) hx hb d_Deeds_join_148 hl (by decide) rfl (fun ls hl => ?_)
      exact lb_Deeds_join_150 l dC dI cI adK adV adA u n hx hb hml hown hts hK hE hA hr hlocks n _ _ _ _ _ _ _ _ _ _ hm o kc ks hkc hks _ _ _ hP hD hS (lv_sub hl [1, 4, 5, 6, 7, 8, 0] rfl)
    · replace hm := if_f c_1 hm
      refine lv_aload_n hx hb d_Deeds_join_112 rfl (lv_at hl 0 rfl) ?_
      refine va_get (D := (dC, dI)) (ci := 10) (v := .ref ((u 1))) (C := R_Deeds) (T := F_Deeds) (N := 8) hx hb htt iw_Deeds hown hK hP 10 xo_10 rfl 0 (Nat.le_of_ble_eq_true rfl) (htt _ lk_Deeds_15) (fun _ h9 => h9) xg_10_0 d_Deeds_join_113 ?_
      refine lv_iload hx hb d_Deeds_join_116 (lv_at hl 7 rfl) ?_
      refine lv_iload hx hb d_Deeds_join_118 (lv_at hl 8 rfl) ?_
      refine lv_iload_n hx hb d_Deeds_join_120 rfl (lv_at hl 2 rfl) ?_
      refine lv_if_eq (tgt := 128) hx hb d_Deeds_join_121 (by decide) (fun c_2 => ?_) (fun c_2 => ?_)
      · replace hm := if_t c_2 hm
        refine lv_aload_n hx hb d_Deeds_join_128 rfl (lv_at hl 0 rfl) ?_
        refine va_get (D := (dC, dI)) (ci := 10) (v := .ref ((u 1))) (C := R_Deeds) (T := F_Deeds) (N := 8) hx hb htt iw_Deeds hown hK hP 10 xo_10 rfl 0 (Nat.le_of_ble_eq_true rfl) (htt _ lk_Deeds_15) (fun _ h9 => h9) xg_10_0 d_Deeds_join_129 ?_
        refine lv_iload_n hx hb d_Deeds_join_132 rfl (lv_at hl 1 rfl) ?_
        refine lv_iload hx hb d_Deeds_join_133 (lv_at hl 8 rfl) ?_
        obtain ⟨r_4, h_3, hm⟩ := ob0_some hm
        have hFc := x_free0 hS hA
        refine xg_calli (va_runV (As := [.int v1, .int v9]) (rest := [.int v9, .int v8, .ref ((u 1))]) ⟨hx, hb, hml, hown, hts⟩ (x_Heap_member l dC dI cI adK adV adA u o g H.size n h_3) (cwV 2 hts (tw_GV tw_cons cw_Heap_member lk_Deeds_196 in_Heap_member sel_Heap_member ini_Heap) rfl rfl rfl ⟨rfl, hd_Heap_member⟩ ⟨Nat.le_of_ble_eq_true rfl, Nat.le_of_ble_eq_true rfl⟩) (xpVr hK hP hS hE hFc xo_1 rfl) rfl rfl hl.1 rfl (lv_room (Nat.le_of_ble_eq_true rfl)) d_Deeds_join_135 ⟨show kc + 0 ≤ mc by omega, show ks + 0 ≤ ms by omega⟩) hS (fun q _ h => hFc q h) hFc (fun kc_5 ks_6 r9 u9 t9 H locs ekc eks ht hvm e9 hB hz1 hk1 hS => ?_)
        replace hkc : kc_5 + k2.1 = mc := by omega
        replace hks : ks_6 + k2.2 = ms := by omega
        clear ekc eks
        have e9 : r_4 = r9 := e9
        subst e9
        replace hP := x_keep hP hk1
        clear hFc hk1 hz1 hvm hB ht
        exact lb_Deeds_join_138 l dC dI cI adK adV adA u n hx hb hml hown hts hK hE hA hr hlocks (m_Deeds_join_b105 n f) ih _ _ _ _ _ _ _ _ _ _ _ _ _ _ _ hm o kc_5 ks_6 hkc hks _ _ _ hP hD hS (lv_sub hl [0, 1, 2, 3, 4, 5, 6, 7, 8] rfl)
      · replace hm := if_f c_2 hm
        refine lv_iload_n hx hb d_Deeds_join_124 rfl (lv_at hl 1 rfl) ?_
        refine lv_goto (tgt := 138) hx hb d_Deeds_join_125 (by decide) ?_
        exact lb_Deeds_join_138 l dC dI cI adK adV adA u n hx hb hml hown hts hK hE hA hr hlocks (m_Deeds_join_b105 n f) ih _ _ _ _ _ _ _ _ _ _ _ _ _ _ _ hm o kc ks hkc hks _ _ _ hP hD hS (lv_sub hl [0, 1, 2, 3, 4, 5, 6, 7, 8] rfl)
def m_Deeds_join_b76 (n : Nat) (i : Nat → Int32) (a : Nat → Nat → Int32) (g : Nat → Nat) (v1 : Int32) (v2 : Int32) (v3 : Int32) (v4 : Int32) (v5 : Int32) (v6 : Int32) (s0 : Int32) (s1 : Int32) : Option ((Nat → Int32) × (Nat → Nat → Int32) × (Nat → Nat) × (Nat × Nat) × Int32) := ob1 (s1 - s0 : Int32) (fun x_1 => obG (m_Deeds_madeList n g i a (v5 + v6) x_1) (fun i_3 a_4 g_5 r_7 => if r_7 = ((-2147483640 : Int32)) then some (i_3, a_4, g_5, (0, 0), r_7) else m_Deeds_join_b105 n n i_3 a_4 g_5 v1 v2 v3 v4 v5 v6 r_7 (0 : Int32)))
set_option maxHeartbeats 4000000 in
set_option maxRecDepth 100000 in
theorem lb_Deeds_join_76 (l : Launch) (dC : Nat → ClassId) (dI : Nat → Nat → Nat) (cI : ClassId) (adK adV adA u : Nat → Nat) (n : Nat) {p : Program} {e : Env} {s : State} {m : MethodId} {args : Array Value} {below : List Frame} {meth : Method} {c : Code} {A : Nat → Prop} (hx : p.tables.exec = Jvm.exec) (hb : c.code = b_Deeds_join) (hml : c.maxLocals = 10) (hown : s.vm.findClass R_Deeds = some m.cls) (hts : ∀ w ∈ w_Deeds_join, w.before args s = true) (hK : va_K (dC, dI) classes [(cI, .int)] s) (hE : tw_E adK adV adA A s s.heap) (hA : ∀ q : Nat, s.heap.size ≤ q → A q) (hr : meth.sig.returnType = (some .int)) (hlocks : meth.locks = false) {mc ms : Nat} {i2 : Nat → Int32} {a2 : Nat → Nat → Int32} {g2 : Nat → Nat} {r2 : Int32} (i : Nat → Int32) (a : Nat → Nat → Int32) (g : Nat → Nat) (v1 : Int32) (v2 : Int32) (v3 : Int32) (v4 : Int32) (v5 : Int32) (v6 : Int32) (s0 : Int32) (s1 : Int32) (k2 : Nat × Nat) (hm : m_Deeds_join_b76 n i a g v1 v2 v3 v4 v5 v6 s0 s1 = some (i2, a2, g2, k2, r2)) : ∀ (o : Nat → Nat) (kc ks : Nat), kc + k2.1 = mc → ks + k2.2 = ms → ∀ (H : Heap) (locs : List Loc) (ls : Array Slot), va_P (dC, dI) classes (TW cI u o i a g) H → va_D A (TW cI u o i a g) → va_S A s.heap H locs → lv_has ls 10 [(0, .ref ((u 10))), (1, .int v1), (2, .int v2), (3, .int v3), (4, .int v4), (5, .int v5), (6, .int v6)] → W p l e ({ frames := 5, cells := mc, slots := ms, locals := 130 } : Room) s m args below meth c H locs kc ks (MQ below (va_Qi (xRg r2) (xBg dC dI cI u g2 i2 a2 A) A) args s mc ms A) (F0 m 76 ls [.int s0, .int s1]) := by
  have htt : ∀ w ∈ tw_T, w.before _ s = true := fun w h => hts w (List.mem_cons_of_mem _ h)
  intro o kc ks hkc hks H locs ls hP hD hS hl
  rw [m_Deeds_join_b76] at hm
  refine lv_isub hx hb d_Deeds_join_76 ?_
  refine lv_topi (fun x_1 ex_1 => ?_)
  replace hm := ob1_at ex_1 hm
  refine lv_istore (lv' := [(7, .int x_1), (0, .ref ((u 10))), (1, .int v1), (2, .int v2), (3, .int v3), (4, .int v4), (5, .int v5), (6, .int v6)]) hx hb d_Deeds_join_77 hl (by decide) rfl (fun ls hl => ?_)
  refine lv_aload_n hx hb d_Deeds_join_79 rfl (lv_at hl 1 rfl) ?_
  refine lv_iload hx hb d_Deeds_join_80 (lv_at hl 6 rfl) ?_
  refine lv_iload hx hb d_Deeds_join_82 (lv_at hl 7 rfl) ?_
  refine lv_iadd hx hb d_Deeds_join_84 ?_
  refine lv_iload hx hb d_Deeds_join_85 (lv_at hl 0 rfl) ?_
  obtain ⟨i_3, a_4, g_5, k_6, r_7, k_8, h_2, hm, e7, e8⟩ := obG_some hm
  have hFc := x_free hD hS hA
  refine xg_calli (va_runV (As := [.int (v5 + v6), .int x_1]) (rest := []) ⟨hx, hb, hml, hown, hts⟩ (x_Deeds_madeList l dC dI cI adK adV adA u o g H.size n h_2) (cwV 2 hts (tw_GV tw_cons cw_Deeds_madeList lk_Deeds_210 in_Deeds_madeList sel_Deeds_madeList ini_Deeds) rfl rfl rfl ⟨rfl, hd_Deeds_madeList⟩ ⟨Nat.le_of_ble_eq_true rfl, Nat.le_of_ble_eq_true rfl⟩) (xpV hK hP hD hS hE hFc xo_10 rfl) rfl rfl hl.1 rfl (lv_room (Nat.le_of_ble_eq_true rfl)) d_Deeds_join_87 ⟨show kc + k_6.1 ≤ mc by omega, show ks + k_6.2 ≤ ms by omega⟩) hS (fun q _ h => hFc q h) hFc (fun kc_10 ks_11 r9 o_9 t9 H locs ekc eks ht hvm e9 hB hz1 hk1 hS => ?_)
  replace hkc : kc_10 + k_8.1 = mc := by omega
  replace hks : ks_11 + k_8.2 = ms := by omega
  clear e7 e8
  clear ekc eks
  have e9 : r_7 = r9 := e9
  subst e9
  obtain ⟨hP, hD⟩ := x_aftg hB ht hFc
  clear hFc hk1 hz1 hvm hB ht
  refine lv_istore (lv' := [(8, .int r_7), (7, .int x_1), (0, .ref ((u 10))), (1, .int v1), (2, .int v2), (3, .int v3), (4, .int v4), (5, .int v5), (6, .int v6)]) hx hb d_Deeds_join_90 hl (by decide) rfl (fun ls hl => ?_)
  refine lv_iload hx hb d_Deeds_join_92 (lv_at hl 0 rfl) ?_
  refine lv_ldc (v := (-2147483640)) hx hb hown (htt _ lk_Deeds_202) d_Deeds_join_94 ?_
  refine lv_icmp_ne (tgt := 102) hx hb d_Deeds_join_96 (by decide) (fun c_12 => ?_) (fun c_12 => ?_)
  · replace hm := if_f c_12 hm
    refine lv_iconst (v := 0) hx hb d_Deeds_join_102 (by decide) ?_
    refine lv_istore (lv' := [(9, .int 0), (8, .int r_7), (7, .int x_1), (0, .ref ((u 10))), (1, .int v1), (2, .int v2), (3, .int v3), (4, .int v4), (5, .int v5), (6, .int v6)]) hx hb d_Deeds_join_103 hl (by decide) rfl (fun ls hl => ?_)
    exact lb_Deeds_join_105 l dC dI cI adK adV adA u n hx hb hml hown hts hK hE hA hr hlocks n _ _ _ _ _ _ _ _ _ _ _ _ hm o_9 kc_10 ks_11 hkc hks _ _ _ hP hD hS (lv_sub hl [3, 4, 5, 6, 7, 8, 9, 1, 0] rfl)
  · replace hm := if_t c_12 hm
    refine lv_iload hx hb d_Deeds_join_99 (lv_at hl 0 rfl) ?_
    obtain ⟨e1, e2, e4, e5, e6, e3⟩ := re5 hm
    obtain ⟨hP, hD⟩ := x_eqg e1 e2 e4 hP hD
    refine W.widen (k := mc) (n := ms) (show kc_10 ≤ mc by omega) (show ks_11 ≤ ms by omega) ?_
    exact W.iret hx hb hr (fun t9 ht hW => ⟨⟨_, o_9, rfl, e3.symm, by rw [ht]; exact hP, hD⟩, hS.F ht⟩) hS.2.2 d_Deeds_join_101
def m_Deeds_join_b56 (n : Nat) (i : Nat → Int32) (a : Nat → Nat → Int32) (g : Nat → Nat) (v1 : Int32) (v2 : Int32) (v3 : Int32) (v4 : Int32) (v5 : Int32) (v6 : Int32) (s0 : Int32) (s1 : Int32) : Option ((Nat → Int32) × (Nat → Nat → Int32) × (Nat → Nat) × (Nat × Nat) × Int32) := ob0 (m_Heap_size n g i a v3) (fun r_2 => if v4 = ((0 : Int32)) then m_Deeds_join_b76 n i a g v1 v2 v3 v4 v5 v6 (1 : Int32) ((s1 - s0) + r_2) else m_Deeds_join_b76 n i a g v1 v2 v3 v4 v5 v6 (0 : Int32) ((s1 - s0) + r_2))
set_option maxHeartbeats 4000000 in
set_option maxRecDepth 100000 in
theorem lb_Deeds_join_56 (l : Launch) (dC : Nat → ClassId) (dI : Nat → Nat → Nat) (cI : ClassId) (adK adV adA u : Nat → Nat) (n : Nat) {p : Program} {e : Env} {s : State} {m : MethodId} {args : Array Value} {below : List Frame} {meth : Method} {c : Code} {A : Nat → Prop} (hx : p.tables.exec = Jvm.exec) (hb : c.code = b_Deeds_join) (hml : c.maxLocals = 10) (hown : s.vm.findClass R_Deeds = some m.cls) (hts : ∀ w ∈ w_Deeds_join, w.before args s = true) (hK : va_K (dC, dI) classes [(cI, .int)] s) (hE : tw_E adK adV adA A s s.heap) (hA : ∀ q : Nat, s.heap.size ≤ q → A q) (hr : meth.sig.returnType = (some .int)) (hlocks : meth.locks = false) {mc ms : Nat} {i2 : Nat → Int32} {a2 : Nat → Nat → Int32} {g2 : Nat → Nat} {r2 : Int32} (i : Nat → Int32) (a : Nat → Nat → Int32) (g : Nat → Nat) (v1 : Int32) (v2 : Int32) (v3 : Int32) (v4 : Int32) (v5 : Int32) (v6 : Int32) (s0 : Int32) (s1 : Int32) (k2 : Nat × Nat) (hm : m_Deeds_join_b56 n i a g v1 v2 v3 v4 v5 v6 s0 s1 = some (i2, a2, g2, k2, r2)) : ∀ (o : Nat → Nat) (kc ks : Nat), kc + k2.1 = mc → ks + k2.2 = ms → ∀ (H : Heap) (locs : List Loc) (ls : Array Slot), va_P (dC, dI) classes (TW cI u o i a g) H → va_D A (TW cI u o i a g) → va_S A s.heap H locs → lv_has ls 10 [(0, .ref ((u 10))), (1, .int v1), (2, .int v2), (3, .int v3), (4, .int v4), (5, .int v5), (6, .int v6)] → W p l e ({ frames := 5, cells := mc, slots := ms, locals := 130 } : Room) s m args below meth c H locs kc ks (MQ below (va_Qi (xRg r2) (xBg dC dI cI u g2 i2 a2 A) A) args s mc ms A) (F0 m 56 ls [.int s0, .int s1]) := by
  have htt : ∀ w ∈ tw_T, w.before _ s = true := fun w h => hts w (List.mem_cons_of_mem _ h)
  intro o kc ks hkc hks H locs ls hP hD hS hl
  rw [m_Deeds_join_b56] at hm
  refine lv_isub hx hb d_Deeds_join_56 ?_
  refine lv_aload_n hx hb d_Deeds_join_57 rfl (lv_at hl 0 rfl) ?_
  refine va_get (D := (dC, dI)) (ci := 10) (v := .ref ((u 1))) (C := R_Deeds) (T := F_Deeds) (N := 8) hx hb htt iw_Deeds hown hK hP 10 xo_10 rfl 0 (Nat.le_of_ble_eq_true rfl) (htt _ lk_Deeds_15) (fun _ h9 => h9) xg_10_0 d_Deeds_join_58 ?_
  refine lv_iload_n hx hb d_Deeds_join_61 rfl (lv_at hl 3 rfl) ?_
  obtain ⟨r_2, h_1, hm⟩ := ob0_some hm
  have hFc := x_free0 hS hA
  refine xg_calli (va_runV (As := [.int v3]) (rest := [.int (s1 - s0)]) ⟨hx, hb, hml, hown, hts⟩ (x_Heap_size l dC dI cI adK adV adA u o g H.size n h_1) (cwV 1 hts (tw_GV tw_cons cw_Heap_size lk_Deeds_207 in_Heap_size sel_Heap_size ini_Heap) rfl rfl rfl ⟨rfl, hd_Heap_size⟩ ⟨Nat.le_of_ble_eq_true rfl, Nat.le_of_ble_eq_true rfl⟩) (xpVr hK hP hS hE hFc xo_1 rfl) rfl rfl hl.1 rfl (lv_room (Nat.le_of_ble_eq_true rfl)) d_Deeds_join_62 ⟨show kc + 0 ≤ mc by omega, show ks + 0 ≤ ms by omega⟩) hS (fun q _ h => hFc q h) hFc (fun kc_3 ks_4 r9 u9 t9 H locs ekc eks ht hvm e9 hB hz1 hk1 hS => ?_)
  replace hkc : kc_3 + k2.1 = mc := by omega
  replace hks : ks_4 + k2.2 = ms := by omega
  clear ekc eks
  have e9 : r_2 = r9 := e9
  subst e9
  replace hP := x_keep hP hk1
  clear hFc hk1 hz1 hvm hB ht
  refine lv_iadd hx hb d_Deeds_join_65 ?_
  refine lv_iload hx hb d_Deeds_join_66 (lv_at hl 4 rfl) ?_
  refine lv_if_eq (tgt := 75) hx hb d_Deeds_join_68 (by decide) (fun c_5 => ?_) (fun c_5 => ?_)
  · replace hm := if_t c_5 hm
    refine lv_iconst (v := 1) hx hb d_Deeds_join_75 (by decide) ?_
    exact lb_Deeds_join_76 l dC dI cI adK adV adA u n hx hb hml hown hts hK hE hA hr hlocks _ _ _ _ _ _ _ _ _ _ _ _ hm o kc_3 ks_4 hkc hks _ _ _ hP hD hS (lv_sub hl [0, 1, 2, 3, 4, 5, 6] rfl)
  · replace hm := if_f c_5 hm
    refine lv_iconst (v := 0) hx hb d_Deeds_join_71 (by decide) ?_
    refine lv_goto (tgt := 76) hx hb d_Deeds_join_72 (by decide) ?_
    exact lb_Deeds_join_76 l dC dI cI adK adV adA u n hx hb hml hown hts hK hE hA hr hlocks _ _ _ _ _ _ _ _ _ _ _ _ hm o kc_3 ks_4 hkc hks _ _ _ hP hD hS (lv_sub hl [0, 1, 2, 3, 4, 5, 6] rfl)
def m_Deeds_join_b35 (n : Nat) (i : Nat → Int32) (a : Nat → Nat → Int32) (g : Nat → Nat) (v1 : Int32) (v2 : Int32) (v3 : Int32) (v4 : Int32) (v5 : Int32) (s0 : Int32) : Option ((Nat → Int32) × (Nat → Nat → Int32) × (Nat → Nat) × (Nat × Nat) × Int32) := ob0 (m_Heap_size n g i a v1) (fun r_2 => if v2 = ((0 : Int32)) then m_Deeds_join_b56 n i a g v1 v2 v3 v4 v5 s0 (1 : Int32) (1 + r_2) else m_Deeds_join_b56 n i a g v1 v2 v3 v4 v5 s0 (0 : Int32) (1 + r_2))
set_option maxHeartbeats 4000000 in
set_option maxRecDepth 100000 in
theorem lb_Deeds_join_35 (l : Launch) (dC : Nat → ClassId) (dI : Nat → Nat → Nat) (cI : ClassId) (adK adV adA u : Nat → Nat) (n : Nat) {p : Program} {e : Env} {s : State} {m : MethodId} {args : Array Value} {below : List Frame} {meth : Method} {c : Code} {A : Nat → Prop} (hx : p.tables.exec = Jvm.exec) (hb : c.code = b_Deeds_join) (hml : c.maxLocals = 10) (hown : s.vm.findClass R_Deeds = some m.cls) (hts : ∀ w ∈ w_Deeds_join, w.before args s = true) (hK : va_K (dC, dI) classes [(cI, .int)] s) (hE : tw_E adK adV adA A s s.heap) (hA : ∀ q : Nat, s.heap.size ≤ q → A q) (hr : meth.sig.returnType = (some .int)) (hlocks : meth.locks = false) {mc ms : Nat} {i2 : Nat → Int32} {a2 : Nat → Nat → Int32} {g2 : Nat → Nat} {r2 : Int32} (i : Nat → Int32) (a : Nat → Nat → Int32) (g : Nat → Nat) (v1 : Int32) (v2 : Int32) (v3 : Int32) (v4 : Int32) (v5 : Int32) (s0 : Int32) (k2 : Nat × Nat) (hm : m_Deeds_join_b35 n i a g v1 v2 v3 v4 v5 s0 = some (i2, a2, g2, k2, r2)) : ∀ (o : Nat → Nat) (kc ks : Nat), kc + k2.1 = mc → ks + k2.2 = ms → ∀ (H : Heap) (locs : List Loc) (ls : Array Slot), va_P (dC, dI) classes (TW cI u o i a g) H → va_D A (TW cI u o i a g) → va_S A s.heap H locs → lv_has ls 10 [(0, .ref ((u 10))), (1, .int v1), (2, .int v2), (3, .int v3), (4, .int v4), (5, .int v5)] → W p l e ({ frames := 5, cells := mc, slots := ms, locals := 130 } : Room) s m args below meth c H locs kc ks (MQ below (va_Qi (xRg r2) (xBg dC dI cI u g2 i2 a2 A) A) args s mc ms A) (F0 m 35 ls [.int s0]) := by
  have htt : ∀ w ∈ tw_T, w.before _ s = true := fun w h => hts w (List.mem_cons_of_mem _ h)
  intro o kc ks hkc hks H locs ls hP hD hS hl
  rw [m_Deeds_join_b35] at hm
  refine lv_istore (lv' := [(6, .int s0), (0, .ref ((u 10))), (1, .int v1), (2, .int v2), (3, .int v3), (4, .int v4), (5, .int v5)]) hx hb d_Deeds_join_35 hl (by decide) rfl (fun ls hl => ?_)
  refine lv_iconst (v := 1) hx hb d_Deeds_join_37 (by decide) ?_
  refine lv_aload_n hx hb d_Deeds_join_38 rfl (lv_at hl 1 rfl) ?_
  refine va_get (D := (dC, dI)) (ci := 10) (v := .ref ((u 1))) (C := R_Deeds) (T := F_Deeds) (N := 8) hx hb htt iw_Deeds hown hK hP 10 xo_10 rfl 0 (Nat.le_of_ble_eq_true rfl) (htt _ lk_Deeds_15) (fun _ h9 => h9) xg_10_0 d_Deeds_join_39 ?_
  refine lv_iload_n hx hb d_Deeds_join_42 rfl (lv_at hl 2 rfl) ?_
  obtain ⟨r_2, h_1, hm⟩ := ob0_some hm
  have hFc := x_free0 hS hA
  refine xg_calli (va_runV (As := [.int v1]) (rest := [.int 1]) ⟨hx, hb, hml, hown, hts⟩ (x_Heap_size l dC dI cI adK adV adA u o g H.size n h_1) (cwV 1 hts (tw_GV tw_cons cw_Heap_size lk_Deeds_207 in_Heap_size sel_Heap_size ini_Heap) rfl rfl rfl ⟨rfl, hd_Heap_size⟩ ⟨Nat.le_of_ble_eq_true rfl, Nat.le_of_ble_eq_true rfl⟩) (xpVr hK hP hS hE hFc xo_1 rfl) rfl rfl hl.1 rfl (lv_room (Nat.le_of_ble_eq_true rfl)) d_Deeds_join_43 ⟨show kc + 0 ≤ mc by omega, show ks + 0 ≤ ms by omega⟩) hS (fun q _ h => hFc q h) hFc (fun kc_3 ks_4 r9 u9 t9 H locs ekc eks ht hvm e9 hB hz1 hk1 hS => ?_)
  replace hkc : kc_3 + k2.1 = mc := by omega
  replace hks : ks_4 + k2.2 = ms := by omega
  clear ekc eks
  have e9 : r_2 = r9 := e9
  subst e9
  replace hP := x_keep hP hk1
  clear hFc hk1 hz1 hvm hB ht
  refine lv_iadd hx hb d_Deeds_join_46 ?_
  refine lv_iload_n hx hb d_Deeds_join_47 rfl (lv_at hl 3 rfl) ?_
  refine lv_if_eq (tgt := 55) hx hb d_Deeds_join_48 (by decide) (fun c_5 => ?_) (fun c_5 => ?_)
  · replace hm := if_t c_5 hm
    refine lv_iconst (v := 1) hx hb d_Deeds_join_55 (by decide) ?_
    exact lb_Deeds_join_56 l dC dI cI adK adV adA u n hx hb hml hown hts hK hE hA hr hlocks _ _ _ _ _ _ _ _ _ _ _ _ hm o kc_3 ks_4 hkc hks _ _ _ hP hD hS (lv_sub hl [1, 2, 3, 4, 5, 6, 0] rfl)
  · replace hm := if_f c_5 hm
    refine lv_iconst (v := 0) hx hb d_Deeds_join_51 (by decide) ?_
    refine lv_goto (tgt := 56) hx hb d_Deeds_join_52 (by decide) ?_
    exact lb_Deeds_join_56 l dC dI cI adK adV adA u n hx hb hml hown hts hK hE hA hr hlocks _ _ _ _ _ _ _ _ _ _ _ _ hm o kc_3 ks_4 hkc hks _ _ _ hP hD hS (lv_sub hl [1, 2, 3, 4, 5, 6, 0] rfl)
def m_Deeds_join_b16 (n : Nat) (i : Nat → Int32) (a : Nat → Nat → Int32) (g : Nat → Nat) (v1 : Int32) (v2 : Int32) (v3 : Int32) (v4 : Int32) (s0 : Int32) : Option ((Nat → Int32) × (Nat → Nat → Int32) × (Nat → Nat) × (Nat × Nat) × Int32) := if v4 = ((0 : Int32)) then ob0 (m_Heap_count n g i a v3) (fun r_3 => m_Deeds_join_b35 n i a g v1 v2 v3 v4 s0 r_3) else m_Deeds_join_b35 n i a g v1 v2 v3 v4 s0 (1 : Int32)
set_option maxHeartbeats 4000000 in
set_option maxRecDepth 100000 in
theorem lb_Deeds_join_16 (l : Launch) (dC : Nat → ClassId) (dI : Nat → Nat → Nat) (cI : ClassId) (adK adV adA u : Nat → Nat) (n : Nat) {p : Program} {e : Env} {s : State} {m : MethodId} {args : Array Value} {below : List Frame} {meth : Method} {c : Code} {A : Nat → Prop} (hx : p.tables.exec = Jvm.exec) (hb : c.code = b_Deeds_join) (hml : c.maxLocals = 10) (hown : s.vm.findClass R_Deeds = some m.cls) (hts : ∀ w ∈ w_Deeds_join, w.before args s = true) (hK : va_K (dC, dI) classes [(cI, .int)] s) (hE : tw_E adK adV adA A s s.heap) (hA : ∀ q : Nat, s.heap.size ≤ q → A q) (hr : meth.sig.returnType = (some .int)) (hlocks : meth.locks = false) {mc ms : Nat} {i2 : Nat → Int32} {a2 : Nat → Nat → Int32} {g2 : Nat → Nat} {r2 : Int32} (i : Nat → Int32) (a : Nat → Nat → Int32) (g : Nat → Nat) (v1 : Int32) (v2 : Int32) (v3 : Int32) (v4 : Int32) (s0 : Int32) (k2 : Nat × Nat) (hm : m_Deeds_join_b16 n i a g v1 v2 v3 v4 s0 = some (i2, a2, g2, k2, r2)) : ∀ (o : Nat → Nat) (kc ks : Nat), kc + k2.1 = mc → ks + k2.2 = ms → ∀ (H : Heap) (locs : List Loc) (ls : Array Slot), va_P (dC, dI) classes (TW cI u o i a g) H → va_D A (TW cI u o i a g) → va_S A s.heap H locs → lv_has ls 10 [(0, .ref ((u 10))), (1, .int v1), (2, .int v2), (3, .int v3), (4, .int v4)] → W p l e ({ frames := 5, cells := mc, slots := ms, locals := 130 } : Room) s m args below meth c H locs kc ks (MQ below (va_Qi (xRg r2) (xBg dC dI cI u g2 i2 a2 A) A) args s mc ms A) (F0 m 16 ls [.int s0]) := by
  have htt : ∀ w ∈ tw_T, w.before _ s = true := fun w h => hts w (List.mem_cons_of_mem _ h)
  intro o kc ks hkc hks H locs ls hP hD hS hl
  rw [m_Deeds_join_b16] at hm
  refine lv_istore (lv' := [(5, .int s0), (0, .ref ((u 10))), (1, .int v1), (2, .int v2), (3, .int v3), (4, .int v4)]) hx hb d_Deeds_join_16 hl (by decide) rfl (fun ls hl => ?_)
  refine lv_iload hx hb d_Deeds_join_18 (lv_at hl 5 rfl) ?_
  refine lv_if_eq (tgt := 27) hx hb d_Deeds_join_20 (by decide) (fun c_1 => ?_) (fun c_1 => ?_)
  · replace hm := if_t c_1 hm
    refine lv_aload_n hx hb d_Deeds_join_27 rfl (lv_at hl 1 rfl) ?_
    refine va_get (D := (dC, dI)) (ci := 10) (v := .ref ((u 1))) (C := R_Deeds) (T := F_Deeds) (N := 8) hx hb htt iw_Deeds hown hK hP 10 xo_10 rfl 0 (Nat.le_of_ble_eq_true rfl) (htt _ lk_Deeds_15) (fun _ h9 => h9) xg_10_0 d_Deeds_join_28 ?_
    refine lv_iload_n hx hb d_Deeds_join_31 rfl (lv_at hl 4 rfl) ?_
    obtain ⟨r_3, h_2, hm⟩ := ob0_some hm
    have hFc := x_free0 hS hA
    refine xg_calli (va_runV (As := [.int v3]) (rest := []) ⟨hx, hb, hml, hown, hts⟩ (x_Heap_count l dC dI cI adK adV adA u o g H.size n h_2) (cwV 1 hts (tw_GV tw_cons cw_Heap_count lk_Deeds_173 in_Heap_count sel_Heap_count ini_Heap) rfl rfl rfl ⟨rfl, hd_Heap_count⟩ ⟨Nat.le_of_ble_eq_true rfl, Nat.le_of_ble_eq_true rfl⟩) (xpVr hK hP hS hE hFc xo_1 rfl) rfl rfl hl.1 rfl (lv_room (Nat.le_of_ble_eq_true rfl)) d_Deeds_join_32 ⟨show kc + 0 ≤ mc by omega, show ks + 0 ≤ ms by omega⟩) hS (fun q _ h => hFc q h) hFc (fun kc_4 ks_5 r9 u9 t9 H locs ekc eks ht hvm e9 hB hz1 hk1 hS => ?_)
    replace hkc : kc_4 + k2.1 = mc := by omega
    replace hks : ks_5 + k2.2 = ms := by omega
    clear ekc eks
    have e9 : r_3 = r9 := e9
    subst e9
    replace hP := x_keep hP hk1
    clear hFc hk1 hz1 hvm hB ht
    exact lb_Deeds_join_35 l dC dI cI adK adV adA u n hx hb hml hown hts hK hE hA hr hlocks _ _ _ _ _ _ _ _ _ _ hm o kc_4 ks_5 hkc hks _ _ _ hP hD hS (lv_sub hl [1, 2, 3, 4, 5, 0] rfl)
  · replace hm := if_f c_1 hm
    refine lv_iconst (v := 1) hx hb d_Deeds_join_23 (by decide) ?_
    refine lv_goto (tgt := 35) hx hb d_Deeds_join_24 (by decide) ?_
    exact lb_Deeds_join_35 l dC dI cI adK adV adA u n hx hb hml hown hts hK hE hA hr hlocks _ _ _ _ _ _ _ _ _ _ hm o kc ks hkc hks _ _ _ hP hD hS (lv_sub hl [1, 2, 3, 4, 5, 0] rfl)
def m_Deeds_join (n : Nat) (g : Nat → Nat) (i : Nat → Int32) (a : Nat → Nat → Int32) (v1 : Int32) (v2 : Int32) (v3 : Int32) (v4 : Int32) : Option ((Nat → Int32) × (Nat → Nat → Int32) × (Nat → Nat) × (Nat × Nat) × Int32) := if v2 = ((0 : Int32)) then ob0 (m_Heap_count n g i a v1) (fun r_3 => m_Deeds_join_b16 n i a g v1 v2 v3 v4 r_3) else m_Deeds_join_b16 n i a g v1 v2 v3 v4 (1 : Int32)
set_option maxHeartbeats 4000000 in
set_option maxRecDepth 100000 in
theorem x_Deeds_join (l : Launch) (dC : Nat → ClassId) (dI : Nat → Nat → Nat) (cI : ClassId) (adK adV adA u o g : Nat → Nat) (sz : Nat) (n : Nat) {i : Nat → Int32} {a : Nat → Nat → Int32} {v1 : Int32} {v2 : Int32} {v3 : Int32} {v4 : Int32} {i2 : Nat → Int32} {a2 : Nat → Nat → Int32} {g2 : Nat → Nat} {k2 : Nat × Nat} {r2 : Int32} (hm : m_Deeds_join n g i a v1 v2 v3 v4 = some (i2, a2, g2, k2, r2)) : Met l y_Deeds_join w_Deeds_join ({ frames := 5, cells := k2.1, slots := k2.2, locals := 130 } : Room) (va_Pc [.ref ((u 10)), .int v1, .int v2, .int v3, .int v4] (xE dC dI cI adK adV adA u o g i a sz)) (va_Qi (xRg r2) (xBg dC dI cI u g2 i2 a2 (va_A (TW cI u o i a g) sz)) (va_A (TW cI u o i a g) sz)) k2.1 k2.2 ((va_A (TW cI u o i a g) sz)) := by
  refine Met.ofW (cc := b_Deeds_join) (maxL := 10) (ret := (some .int)) (by decide) rfl ?_
  intro p e s m args below meth c s₁ B hml hv
  obtain ⟨rfl, hsz, hP, hK, hE, hD0⟩ := hv
  have hx := B.exec
  have hb := B.bytes
  have hr := B.returns
  have hts := atoms_spec (ws := w_Deeds_join) B.pre
  have htt : ∀ w ∈ tw_T, w.before _ s = true := fun w h => hts w (List.mem_cons_of_mem _ h)
  have hown : s.vm.findClass R_Deeds = some m.cls := findClass_of_methodNamed B.named
  have hlocks := B.notSynchronized
  subst hsz
  have hD := hD0.self (sz := s.heap.size)
  generalize hAe : (va_A (TW cI u o i a g) s.heap.size) = A at hD hE ⊢
  have hA : ∀ q : Nat, s.heap.size ≤ q → A q := fun q h => by rw [← hAe]; exact Or.inr h
  have hS : va_S A s.heap s.heap [] := va_S.rf
  obtain ⟨mc, ms, emc, ems⟩ : ∃ mc ms : Nat, k2.1 = mc ∧ k2.2 = ms := ⟨_, _, rfl, rfl⟩
  have hkc : 0 + k2.1 = mc := by rw [Nat.zero_add]; exact emc
  have hks : 0 + k2.2 = ms := by rw [Nat.zero_add]; exact ems
  rw [emc, ems]
  clear emc ems
  have hl := lv_entry ([.ref ((u 10)), .int v1, .int v2, .int v3, .int v4]) (n := 10) (Nat.le_of_ble_eq_true rfl)
  rw [lg_entry_eq]
  generalize (lg_sl ([.ref ((u 10)), .int v1, .int v2, .int v3, .int v4]) ++ List.replicate (10 - (lg_sl ([.ref ((u 10)), .int v1, .int v2, .int v3, .int v4])).length) Slot.unset).toArray = ls at hl ⊢
  have hl : lv_has ls 10 [(0, .ref ((u 10))), (1, .int v1), (2, .int v2), (3, .int v3), (4, .int v4)] := hl
  rw [m_Deeds_join] at hm
  refine lv_iload_n hx hb d_Deeds_join_0 rfl (lv_at hl 2 rfl) ?_
  refine lv_if_eq (tgt := 8) hx hb d_Deeds_join_1 (by decide) (fun c_1 => ?_) (fun c_1 => ?_)
  · replace hm := if_t c_1 hm
    refine lv_aload_n hx hb d_Deeds_join_8 rfl (lv_at hl 0 rfl) ?_
    refine va_get (D := (dC, dI)) (ci := 10) (v := .ref ((u 1))) (C := R_Deeds) (T := F_Deeds) (N := 8) hx hb htt iw_Deeds hown hK hP 10 xo_10 rfl 0 (Nat.le_of_ble_eq_true rfl) (htt _ lk_Deeds_15) (fun _ h9 => h9) xg_10_0 d_Deeds_join_9 ?_
    refine lv_iload_n hx hb d_Deeds_join_12 rfl (lv_at hl 1 rfl) ?_
    obtain ⟨r_3, h_2, hm⟩ := ob0_some hm
    have hFc := x_free0 hS hA
    refine xg_calli (va_runV (As := [.int v1]) (rest := []) ⟨hx, hb, hml, hown, hts⟩ (x_Heap_count l dC dI cI adK adV adA u o g s.heap.size n h_2) (cwV 1 hts (tw_GV tw_cons cw_Heap_count lk_Deeds_173 in_Heap_count sel_Heap_count ini_Heap) rfl rfl rfl ⟨rfl, hd_Heap_count⟩ ⟨Nat.le_of_ble_eq_true rfl, Nat.le_of_ble_eq_true rfl⟩) (xpVr hK hP hS hE hFc xo_1 rfl) rfl rfl hl.1 rfl (lv_room (Nat.le_of_ble_eq_true rfl)) d_Deeds_join_13 ⟨show 0 + 0 ≤ mc by omega, show 0 + 0 ≤ ms by omega⟩) hS (fun q _ h => hFc q h) hFc (fun kc_4 ks_5 r9 u9 t9 H locs ekc eks ht hvm e9 hB hz1 hk1 hS => ?_)
    replace hkc : kc_4 + k2.1 = mc := by omega
    replace hks : ks_5 + k2.2 = ms := by omega
    clear ekc eks
    have e9 : r_3 = r9 := e9
    subst e9
    replace hP := x_keep hP hk1
    clear hFc hk1 hz1 hvm hB ht
    exact lb_Deeds_join_16 l dC dI cI adK adV adA u n hx hb hml hown hts hK hE hA hr hlocks _ _ _ _ _ _ _ _ _ hm o kc_4 ks_5 hkc hks _ _ _ hP hD hS (lv_sub hl [0, 1, 2, 3, 4] rfl)
  · replace hm := if_f c_1 hm
    refine lv_iconst (v := 1) hx hb d_Deeds_join_4 (by decide) ?_
    refine lv_goto (tgt := 16) hx hb d_Deeds_join_5 (by decide) ?_
    exact lb_Deeds_join_16 l dC dI cI adK adV adA u n hx hb hml hown hts hK hE hA hr hlocks _ _ _ _ _ _ _ _ _ hm o 0 0 hkc hks _ _ _ hP hD hS (lv_sub hl [0, 1, 2, 3, 4] rfl)

def m_Deeds_isMember_b12 (n : Nat) (g : Nat → Nat) : Nat → (Nat → Int32) → (Nat → Nat → Int32) → Int32 → Int32 → Int32 → Int32 → Option ((Nat → Int32) × (Nat → Nat → Int32) × Int32)
  | 0, _, _, _, _, _, _ => none
  | f + 1, i, a, v1, v2, v3, v4 => if v3 ≤ v4 then some (i, a, 0) else ob0 (m_Heap_member n g i a v2 v4) (fun r_3 => ob (m_Heap_equal n g i a v1 r_3) (fun i_5 a_6 r_7 => if r_7 = ((0 : Int32)) then ob1 (v4 + 1 : Int32) (fun x_9 => m_Deeds_isMember_b12 n g f i_5 a_6 v1 v2 v3 x_9) else some (i_5, a_6, 1)))
set_option maxHeartbeats 4000000 in
set_option maxRecDepth 100000 in
theorem lb_Deeds_isMember_12 (l : Launch) (dC : Nat → ClassId) (dI : Nat → Nat → Nat) (cI : ClassId) (adK adV adA u o g : Nat → Nat) (n : Nat) {p : Program} {e : Env} {s : State} {m : MethodId} {args : Array Value} {below : List Frame} {meth : Method} {c : Code} {A : Nat → Prop} (hx : p.tables.exec = Jvm.exec) (hb : c.code = b_Deeds_isMember) (hml : c.maxLocals = 5) (hown : s.vm.findClass R_Deeds = some m.cls) (hts : ∀ w ∈ w_Deeds_isMember, w.before args s = true) (hK : va_K (dC, dI) classes [(cI, .int)] s) (hE : tw_E adK adV adA A s s.heap) (hA : ∀ q : Nat, s.heap.size ≤ q → A q) (hr : meth.sig.returnType = (some .boolean)) (hlocks : meth.locks = false) {i2 : Nat → Int32} {a2 : Nat → Nat → Int32} {r2 : Int32} : ∀ (f : Nat) (i : Nat → Int32) (a : Nat → Nat → Int32) (v1 : Int32) (v2 : Int32) (v3 : Int32) (v4 : Int32), m_Deeds_isMember_b12 n g f i a v1 v2 v3 v4 = some (i2, a2, r2) → ∀ (H : Heap) (locs : List Loc) (ls : Array Slot), va_P (dC, dI) classes (TW cI u o i a g) H → va_D A (TW cI u o i a g) → va_S A s.heap H locs → lv_has ls 5 [(0, .ref ((u 10))), (1, .int v1), (2, .int v2), (3, .int v3), (4, .int v4)] → W p l e ({ frames := 3, cells := 0, slots := 0, locals := 75 } : Room) s m args below meth c H locs 0 0 (MQ below (va_Qi (xR r2) (xB dC dI cI u o g i2 a2 A) A) args s 0 0 A) (F0 m 12 ls []) := by
  have htt : ∀ w ∈ tw_T, w.before _ s = true := fun w h => hts w (List.mem_cons_of_mem _ h)
  intro f
  induction f with
  | zero =>
    intro i a v1 v2 v3 v4 hm
    rw [m_Deeds_isMember_b12] at hm
    cases hm
  | succ f ih =>
    intro i a v1 v2 v3 v4 hm H locs ls hP hD hS hl
    rw [m_Deeds_isMember_b12] at hm
    refine lv_iload hx hb d_Deeds_isMember_12 (lv_at hl 4 rfl) ?_
    refine lv_iload_n hx hb d_Deeds_isMember_14 rfl (lv_at hl 3 rfl) ?_
    refine lv_icmp_ge (tgt := 47) hx hb d_Deeds_isMember_15 (by decide) (fun c_1 => ?_) (fun c_1 => ?_)
    · replace hm := if_t c_1 hm
      refine lv_iconst (v := 0) hx hb d_Deeds_isMember_47 (by decide) ?_
      obtain ⟨e1i, e1a, e3⟩ := re3 hm
      obtain ⟨hP, hD⟩ := x_eq e1i e1a hP hD
      exact W.zret hx hb hr (by decide) (fun t9 ht hW => ⟨⟨_, (), rfl, e3.symm, by rw [ht]; exact hP, hD⟩, hS.F ht⟩) hS.2.2 d_Deeds_isMember_48
    · replace hm := if_f c_1 hm
      refine lv_aload_n hx hb d_Deeds_isMember_18 rfl (lv_at hl 0 rfl) ?_
      refine va_get (D := (dC, dI)) (ci := 10) (v := .ref ((u 1))) (C := R_Deeds) (T := F_Deeds) (N := 8) hx hb htt iw_Deeds hown hK hP 10 xo_10 rfl 0 (Nat.le_of_ble_eq_true rfl) (htt _ lk_Deeds_15) (fun _ h9 => h9) xg_10_0 d_Deeds_isMember_19 ?_
      refine lv_iload_n hx hb d_Deeds_isMember_22 rfl (lv_at hl 1 rfl) ?_
      refine lv_aload_n hx hb d_Deeds_isMember_23 rfl (lv_at hl 0 rfl) ?_
      refine va_get (D := (dC, dI)) (ci := 10) (v := .ref ((u 1))) (C := R_Deeds) (T := F_Deeds) (N := 8) hx hb htt iw_Deeds hown hK hP 10 xo_10 rfl 0 (Nat.le_of_ble_eq_true rfl) (htt _ lk_Deeds_15) (fun _ h9 => h9) xg_10_0 d_Deeds_isMember_24 ?_
      refine lv_iload_n hx hb d_Deeds_isMember_27 rfl (lv_at hl 2 rfl) ?_
      refine lv_iload hx hb d_Deeds_isMember_28 (lv_at hl 4 rfl) ?_
      obtain ⟨r_3, h_2, hm⟩ := ob0_some hm
      have hFc := x_free0 hS hA
      refine va_calli (va_runV (As := [.int v2, .int v4]) (rest := [.int v1, .ref ((u 1))]) ⟨hx, hb, hml, hown, hts⟩ (x_Heap_member l dC dI cI adK adV adA u o g H.size n h_2) (cwV 2 hts (tw_GV tw_cons cw_Heap_member lk_Deeds_196 in_Heap_member sel_Heap_member ini_Heap) rfl rfl rfl ⟨rfl, hd_Heap_member⟩ ⟨Nat.le_of_ble_eq_true rfl, Nat.le_of_ble_eq_true rfl⟩) (xpVr hK hP hS hE hFc xo_1 rfl) rfl rfl hl.1 rfl (lv_room (Nat.le_of_ble_eq_true rfl)) d_Deeds_isMember_30 ⟨Nat.le_of_ble_eq_true rfl, Nat.le_of_ble_eq_true rfl⟩) hS (fun q _ h => hFc q h) hFc (fun r9 u9 t9 H locs ht hvm e9 hB hz1 hk1 hS => ?_)
      have e9 : r_3 = r9 := e9
      subst e9
      replace hP := x_keep hP hk1
      clear hFc hk1 hz1 hvm hB ht
      obtain ⟨i_5, a_6, r_7, h_4, hm⟩ := ob_some hm
      have hFc := x_free hD hS hA
      refine va_calli (va_runV (As := [.int v1, .int r_3]) (rest := []) ⟨hx, hb, hml, hown, hts⟩ (x_Heap_equal l dC dI cI adK adV adA u o g H.size n h_4) (cwV 2 hts (tw_GV tw_cons cw_Heap_equal lk_Deeds_170 in_Heap_equal sel_Heap_equal ini_Heap) rfl rfl rfl ⟨rfl, hd_Heap_equal⟩ ⟨Nat.le_of_ble_eq_true rfl, Nat.le_of_ble_eq_true rfl⟩) (xpV hK hP hD hS hE hFc xo_1 rfl) rfl rfl hl.1 rfl (lv_room (Nat.le_of_ble_eq_true rfl)) d_Deeds_isMember_33 ⟨Nat.le_of_ble_eq_true rfl, Nat.le_of_ble_eq_true rfl⟩) hS (fun q _ h => hFc q h) hFc (fun r9 u9 t9 H locs ht hvm e9 hB hz1 hk1 hS => ?_)
      have e9 : r_7 = r9 := e9
      subst e9
      obtain ⟨hP, hD⟩ := x_aft hB ht hFc
      clear hFc hk1 hz1 hvm hB ht
      refine lv_if_eq (tgt := 41) hx hb d_Deeds_isMember_36 (by decide) (fun c_8 => ?_) (fun c_8 => ?_)
      · replace hm := if_t c_8 hm
        obtain ⟨x_9, ex_9⟩ : ∃ y9 : Int32, y9 = v4 + 1 := ⟨_, rfl⟩
        replace hm := ob1_at ex_9 hm
        refine lv_iinc (v := x_9) (lv' := [(4, .int x_9), (0, .ref ((u 10))), (1, .int v1), (2, .int v2), (3, .int v3)]) hx hb d_Deeds_isMember_41 hl (k := 4) rfl (by rw [ex_9]; rfl) (by decide) rfl (fun ls hl => ?_)
        refine lv_goto (tgt := 12) hx hb d_Deeds_isMember_44 (by decide) ?_
        exact ih _ _ _ _ _ _ hm _ _ _ hP hD hS (lv_sub hl [1, 2, 3, 4, 0] rfl)
      · replace hm := if_f c_8 hm
        refine lv_iconst (v := 1) hx hb d_Deeds_isMember_39 (by decide) ?_
        obtain ⟨e1i, e1a, e3⟩ := re3 hm
        obtain ⟨hP, hD⟩ := x_eq e1i e1a hP hD
        exact W.zret hx hb hr (by decide) (fun t9 ht hW => ⟨⟨_, (), rfl, e3.symm, by rw [ht]; exact hP, hD⟩, hS.F ht⟩) hS.2.2 d_Deeds_isMember_40
def m_Deeds_isMember (n : Nat) (g : Nat → Nat) (i : Nat → Int32) (a : Nat → Nat → Int32) (v1 : Int32) (v2 : Int32) : Option ((Nat → Int32) × (Nat → Nat → Int32) × Int32) := ob0 (m_Heap_count n g i a v2) (fun r_2 => m_Deeds_isMember_b12 n g n i a v1 v2 r_2 (0 : Int32))
set_option maxHeartbeats 4000000 in
set_option maxRecDepth 100000 in
theorem x_Deeds_isMember (l : Launch) (dC : Nat → ClassId) (dI : Nat → Nat → Nat) (cI : ClassId) (adK adV adA u o g : Nat → Nat) (sz : Nat) (n : Nat) {i : Nat → Int32} {a : Nat → Nat → Int32} {v1 : Int32} {v2 : Int32} {i2 : Nat → Int32} {a2 : Nat → Nat → Int32} {r2 : Int32} (hm : m_Deeds_isMember n g i a v1 v2 = some (i2, a2, r2)) : Met l y_Deeds_isMember w_Deeds_isMember ({ frames := 3, cells := 0, slots := 0, locals := 75 } : Room) (va_Pc [.ref ((u 10)), .int v1, .int v2] (xE dC dI cI adK adV adA u o g i a sz)) (va_Qi (xR r2) (xB dC dI cI u o g i2 a2 (va_A (TW cI u o i a g) sz)) (va_A (TW cI u o i a g) sz)) 0 0 ((va_A (TW cI u o i a g) sz)) := by
  refine Met.ofW (cc := b_Deeds_isMember) (maxL := 5) (ret := (some .boolean)) (by decide) rfl ?_
  intro p e s m args below meth c s₁ B hml hv
  obtain ⟨rfl, hsz, hP, hK, hE, hD0⟩ := hv
  have hx := B.exec
  have hb := B.bytes
  have hr := B.returns
  have hts := atoms_spec (ws := w_Deeds_isMember) B.pre
  have htt : ∀ w ∈ tw_T, w.before _ s = true := fun w h => hts w (List.mem_cons_of_mem _ h)
  have hown : s.vm.findClass R_Deeds = some m.cls := findClass_of_methodNamed B.named
  have hlocks := B.notSynchronized
  subst hsz
  have hD := hD0.self (sz := s.heap.size)
  generalize hAe : (va_A (TW cI u o i a g) s.heap.size) = A at hD hE ⊢
  have hA : ∀ q : Nat, s.heap.size ≤ q → A q := fun q h => by rw [← hAe]; exact Or.inr h
  have hS : va_S A s.heap s.heap [] := va_S.rf
  have hl := lv_entry ([.ref ((u 10)), .int v1, .int v2]) (n := 5) (Nat.le_of_ble_eq_true rfl)
  rw [lg_entry_eq]
  generalize (lg_sl ([.ref ((u 10)), .int v1, .int v2]) ++ List.replicate (5 - (lg_sl ([.ref ((u 10)), .int v1, .int v2])).length) Slot.unset).toArray = ls at hl ⊢
  have hl : lv_has ls 5 [(0, .ref ((u 10))), (1, .int v1), (2, .int v2)] := hl
  rw [m_Deeds_isMember] at hm
  refine lv_aload_n hx hb d_Deeds_isMember_0 rfl (lv_at hl 0 rfl) ?_
  refine va_get (D := (dC, dI)) (ci := 10) (v := .ref ((u 1))) (C := R_Deeds) (T := F_Deeds) (N := 8) hx hb htt iw_Deeds hown hK hP 10 xo_10 rfl 0 (Nat.le_of_ble_eq_true rfl) (htt _ lk_Deeds_15) (fun _ h9 => h9) xg_10_0 d_Deeds_isMember_1 ?_
  refine lv_iload_n hx hb d_Deeds_isMember_4 rfl (lv_at hl 2 rfl) ?_
  obtain ⟨r_2, h_1, hm⟩ := ob0_some hm
  have hFc := x_free0 hS hA
  refine va_calli (va_runV (As := [.int v2]) (rest := []) ⟨hx, hb, hml, hown, hts⟩ (x_Heap_count l dC dI cI adK adV adA u o g s.heap.size n h_1) (cwV 1 hts (tw_GV tw_cons cw_Heap_count lk_Deeds_173 in_Heap_count sel_Heap_count ini_Heap) rfl rfl rfl ⟨rfl, hd_Heap_count⟩ ⟨Nat.le_of_ble_eq_true rfl, Nat.le_of_ble_eq_true rfl⟩) (xpVr hK hP hS hE hFc xo_1 rfl) rfl rfl hl.1 rfl (lv_room (Nat.le_of_ble_eq_true rfl)) d_Deeds_isMember_5 ⟨Nat.le_of_ble_eq_true rfl, Nat.le_of_ble_eq_true rfl⟩) hS (fun q _ h => hFc q h) hFc (fun r9 u9 t9 H locs ht hvm e9 hB hz1 hk1 hS => ?_)
  have e9 : r_2 = r9 := e9
  subst e9
  replace hP := x_keep hP hk1
  clear hFc hk1 hz1 hvm hB ht
  refine lv_istore_n (lv' := [(3, .int r_2), (0, .ref ((u 10))), (1, .int v1), (2, .int v2)]) hx hb d_Deeds_isMember_8 rfl hl (by decide) rfl (fun ls hl => ?_)
  refine lv_iconst (v := 0) hx hb d_Deeds_isMember_9 (by decide) ?_
  refine lv_istore (lv' := [(4, .int 0), (3, .int r_2), (0, .ref ((u 10))), (1, .int v1), (2, .int v2)]) hx hb d_Deeds_isMember_10 hl (by decide) rfl (fun ls hl => ?_)
  exact lb_Deeds_isMember_12 l dC dI cI adK adV adA u o g n hx hb hml hown hts hK hE hA hr hlocks n _ _ _ _ _ _ hm _ _ _ hP hD hS (lv_sub hl [2, 3, 4, 1, 0] rfl)

def m_Deeds_reverse_b26 (n : Nat) : Nat → (Nat → Int32) → (Nat → Nat → Int32) → (Nat → Nat) → Int32 → Int32 → Int32 → Int32 → Option ((Nat → Int32) × (Nat → Nat → Int32) × (Nat → Nat) × (Nat × Nat) × Int32)
  | 0, _, _, _, _, _, _, _ => none
  | f + 1, i, a, g, v1, v2, v3, v4 => if v2 ≤ v4 then some (i, a, g, (0, 0), v3) else if v3 = ((-2147483640 : Int32)) then some (i, a, g, (0, 0), v3) else ob0 (m_Heap_member n g i a v1 ((v2 - 1) - v4)) (fun r_4 => ob (m_Heap_putMember n g i a v3 v4 r_4) (fun i_8 a_9 r_10 => ob1 (v4 + 1 : Int32) (fun x_13 => m_Deeds_reverse_b26 n f i_8 a_9 g v1 v2 v3 x_13)))
set_option maxHeartbeats 4000000 in
set_option maxRecDepth 100000 in
theorem lb_Deeds_reverse_26 (l : Launch) (dC : Nat → ClassId) (dI : Nat → Nat → Nat) (cI : ClassId) (adK adV adA u : Nat → Nat) (n : Nat) {p : Program} {e : Env} {s : State} {m : MethodId} {args : Array Value} {below : List Frame} {meth : Method} {c : Code} {A : Nat → Prop} (hx : p.tables.exec = Jvm.exec) (hb : c.code = b_Deeds_reverse) (hml : c.maxLocals = 5) (hown : s.vm.findClass R_Deeds = some m.cls) (hts : ∀ w ∈ w_Deeds_reverse, w.before args s = true) (hK : va_K (dC, dI) classes [(cI, .int)] s) (hE : tw_E adK adV adA A s s.heap) (hA : ∀ q : Nat, s.heap.size ≤ q → A q) (hr : meth.sig.returnType = (some .int)) (hlocks : meth.locks = false) {mc ms : Nat} {i2 : Nat → Int32} {a2 : Nat → Nat → Int32} {g2 : Nat → Nat} {r2 : Int32} : ∀ (f : Nat) (i : Nat → Int32) (a : Nat → Nat → Int32) (g : Nat → Nat) (v1 : Int32) (v2 : Int32) (v3 : Int32) (v4 : Int32) (k2 : Nat × Nat), m_Deeds_reverse_b26 n f i a g v1 v2 v3 v4 = some (i2, a2, g2, k2, r2) → ∀ (o : Nat → Nat) (kc ks : Nat), kc + k2.1 = mc → ks + k2.2 = ms → ∀ (H : Heap) (locs : List Loc) (ls : Array Slot), va_P (dC, dI) classes (TW cI u o i a g) H → va_D A (TW cI u o i a g) → va_S A s.heap H locs → lv_has ls 5 [(0, .ref ((u 10))), (1, .int v1), (2, .int v2), (3, .int v3), (4, .int v4)] → W p l e ({ frames := 5, cells := mc, slots := ms, locals := 130 } : Room) s m args below meth c H locs kc ks (MQ below (va_Qi (xRg r2) (xBg dC dI cI u g2 i2 a2 A) A) args s mc ms A) (F0 m 26 ls []) := by
  have htt : ∀ w ∈ tw_T, w.before _ s = true := fun w h => hts w (List.mem_cons_of_mem _ h)
  intro f
  induction f with
  | zero =>
    intro i a g v1 v2 v3 v4 k2 hm
    rw [m_Deeds_reverse_b26] at hm
    cases hm
  | succ f ih =>
    intro i a g v1 v2 v3 v4 k2 hm o kc ks hkc hks H locs ls hP hD hS hl
    rw [m_Deeds_reverse_b26] at hm
    refine lv_iload hx hb d_Deeds_reverse_26 (lv_at hl 4 rfl) ?_
    refine lv_iload_n hx hb d_Deeds_reverse_28 rfl (lv_at hl 2 rfl) ?_
    refine lv_icmp_ge (tgt := 68) hx hb d_Deeds_reverse_29 (by decide) (fun c_1 => ?_) (fun c_1 => ?_)
    · replace hm := if_t c_1 hm
      refine lv_iload_n hx hb d_Deeds_reverse_68 rfl (lv_at hl 3 rfl) ?_
      obtain ⟨e1, e2, e4, e5, e6, e3⟩ := re5 hm
      obtain ⟨hP, hD⟩ := x_eqg e1 e2 e4 hP hD
      refine W.widen (k := mc) (n := ms) (show kc ≤ mc by omega) (show ks ≤ ms by omega) ?_
      exact W.iret hx hb hr (fun t9 ht hW => ⟨⟨_, o, rfl, e3.symm, by rw [ht]; exact hP, hD⟩, hS.F ht⟩) hS.2.2 d_Deeds_reverse_69
    · replace hm := if_f c_1 hm
      refine lv_iload_n hx hb d_Deeds_reverse_32 rfl (lv_at hl 3 rfl) ?_
      refine lv_ldc (v := (-2147483640)) hx hb hown (htt _ lk_Deeds_202) d_Deeds_reverse_33 ?_
      refine lv_icmp_eq (tgt := 68) hx hb d_Deeds_reverse_35 (by decide) (fun c_2 => ?_) (fun c_2 => ?_)
      · replace hm := if_t c_2 hm
        refine lv_iload_n hx hb d_Deeds_reverse_68 rfl (lv_at hl 3 rfl) ?_
        obtain ⟨e1, e2, e4, e5, e6, e3⟩ := re5 hm
        obtain ⟨hP, hD⟩ := x_eqg e1 e2 e4 hP hD
        refine W.widen (k := mc) (n := ms) (show kc ≤ mc by omega) (show ks ≤ ms by omega) ?_
        exact W.iret hx hb hr (fun t9 ht hW => ⟨⟨_, o, rfl, e3.symm, by rw [ht]; exact hP, hD⟩, hS.F ht⟩) hS.2.2 d_Deeds_reverse_69
      · replace hm := if_f c_2 hm
        refine lv_aload_n hx hb d_Deeds_reverse_38 rfl (lv_at hl 0 rfl) ?_
        refine va_get (D := (dC, dI)) (ci := 10) (v := .ref ((u 1))) (C := R_Deeds) (T := F_Deeds) (N := 8) hx hb htt iw_Deeds hown hK hP 10 xo_10 rfl 0 (Nat.le_of_ble_eq_true rfl) (htt _ lk_Deeds_15) (fun _ h9 => h9) xg_10_0 d_Deeds_reverse_39 ?_
        refine lv_iload_n hx hb d_Deeds_reverse_42 rfl (lv_at hl 3 rfl) ?_
        refine lv_iload hx hb d_Deeds_reverse_43 (lv_at hl 4 rfl) ?_
        refine lv_aload_n hx hb d_Deeds_reverse_45 rfl (lv_at hl 0 rfl) ?_
        refine va_get (D := (dC, dI)) (ci := 10) (v := .ref ((u 1))) (C := R_Deeds) (T := F_Deeds) (N := 8) hx hb htt iw_Deeds hown hK hP 10 xo_10 rfl 0 (Nat.le_of_ble_eq_true rfl) (htt _ lk_Deeds_15) (fun _ h9 => h9) xg_10_0 d_Deeds_reverse_46 ?_
        refine lv_iload_n hx hb d_Deeds_reverse_49 rfl (lv_at hl 1 rfl) ?_
        refine lv_iload_n hx hb d_Deeds_reverse_50 rfl (lv_at hl 2 rfl) ?_
        refine lv_iconst (v := 1) hx hb d_Deeds_reverse_51 (by decide) ?_
        refine lv_isub hx hb d_Deeds_reverse_52 ?_
        refine lv_iload hx hb d_Deeds_reverse_53 (lv_at hl 4 rfl) ?_
        refine lv_isub hx hb d_Deeds_reverse_55 ?_
        obtain ⟨r_4, h_3, hm⟩ := ob0_some hm
        have hFc := x_free0 hS hA
        refine xg_calli (va_runV (As := [.int v1, .int ((v2 - 1) - v4)]) (rest := [.int v4, .int v3, .ref ((u 1))]) ⟨hx, hb, hml, hown, hts⟩ (x_Heap_member l dC dI cI adK adV adA u o g H.size n h_3) (cwV 2 hts (tw_GV tw_cons cw_Heap_member lk_Deeds_196 in_Heap_member sel_Heap_member ini_Heap) rfl rfl rfl ⟨rfl, hd_Heap_member⟩ ⟨Nat.le_of_ble_eq_true rfl, Nat.le_of_ble_eq_true rfl⟩) (xpVr hK hP hS hE hFc xo_1 rfl) rfl rfl hl.1 rfl (lv_room (Nat.le_of_ble_eq_true rfl)) d_Deeds_reverse_56 ⟨show kc + 0 ≤ mc by omega, show ks + 0 ≤ ms by omega⟩) hS (fun q _ h => hFc q h) hFc (fun kc_5 ks_6 r9 u9 t9 H locs ekc eks ht hvm e9 hB hz1 hk1 hS => ?_)
        replace hkc : kc_5 + k2.1 = mc := by omega
        replace hks : ks_6 + k2.2 = ms := by omega
        clear ekc eks
        have e9 : r_4 = r9 := e9
        subst e9
        replace hP := x_keep hP hk1
        clear hFc hk1 hz1 hvm hB ht
        obtain ⟨i_8, a_9, r_10, h_7, hm⟩ := ob_some hm
        have hFc := x_free hD hS hA
        refine xg_callv (va_runV (As := [.int v3, .int v4, .int r_4]) (rest := []) ⟨hx, hb, hml, hown, hts⟩ (x_Heap_putMember l dC dI cI adK adV adA u o g H.size n h_7) (cwV 3 hts (tw_GV tw_cons cw_Heap_putMember lk_Deeds_213 in_Heap_putMember sel_Heap_putMember ini_Heap) rfl rfl rfl ⟨rfl, hd_Heap_putMember⟩ ⟨Nat.le_of_ble_eq_true rfl, Nat.le_of_ble_eq_true rfl⟩) (xpV hK hP hD hS hE hFc xo_1 rfl) rfl rfl hl.1 rfl (lv_room (Nat.le_of_ble_eq_true rfl)) d_Deeds_reverse_59 ⟨show kc_5 + 0 ≤ mc by omega, show ks_6 + 0 ≤ ms by omega⟩) hS (fun q _ h => hFc q h) hFc (fun kc_11 ks_12 u9 t9 H locs ekc eks ht hvm e9 hB hz1 hk1 hS => ?_)
        replace hkc : kc_11 + k2.1 = mc := by omega
        replace hks : ks_12 + k2.2 = ms := by omega
        clear ekc eks
        obtain ⟨hP, hD⟩ := x_aft hB ht hFc
        clear hFc hk1 hz1 hvm hB ht
        obtain ⟨x_13, ex_13⟩ : ∃ y9 : Int32, y9 = v4 + 1 := ⟨_, rfl⟩
        replace hm := ob1_at ex_13 hm
        refine lv_iinc (v := x_13) (lv' := [(4, .int x_13), (0, .ref ((u 10))), (1, .int v1), (2, .int v2), (3, .int v3)]) hx hb d_Deeds_reverse_62 hl (k := 4) rfl (by rw [ex_13]; rfl) (by decide) rfl (fun ls hl => ?_)
        refine lv_goto (tgt := 26) hx hb d_Deeds_reverse_65 (by decide) ?_
        exact ih _ _ _ _ _ _ _ _ hm o kc_11 ks_12 hkc hks _ _ _ hP hD hS (lv_sub hl [1, 2, 3, 4, 0] rfl)
def m_Deeds_reverse (n : Nat) (g : Nat → Nat) (i : Nat → Int32) (a : Nat → Nat → Int32) (v1 : Int32) : Option ((Nat → Int32) × (Nat → Nat → Int32) × (Nat → Nat) × (Nat × Nat) × Int32) := ob0 (m_Heap_count n g i a v1) (fun r_2 => ob0 (m_Heap_size n g i a v1) (fun r_6 => obG (m_Deeds_madeList n g i a r_2 r_6) (fun i_10 a_11 g_12 r_14 => m_Deeds_reverse_b26 n n i_10 a_11 g_12 v1 r_2 r_14 (0 : Int32))))
set_option maxHeartbeats 4000000 in
set_option maxRecDepth 100000 in
theorem x_Deeds_reverse (l : Launch) (dC : Nat → ClassId) (dI : Nat → Nat → Nat) (cI : ClassId) (adK adV adA u o g : Nat → Nat) (sz : Nat) (n : Nat) {i : Nat → Int32} {a : Nat → Nat → Int32} {v1 : Int32} {i2 : Nat → Int32} {a2 : Nat → Nat → Int32} {g2 : Nat → Nat} {k2 : Nat × Nat} {r2 : Int32} (hm : m_Deeds_reverse n g i a v1 = some (i2, a2, g2, k2, r2)) : Met l y_Deeds_reverse w_Deeds_reverse ({ frames := 5, cells := k2.1, slots := k2.2, locals := 130 } : Room) (va_Pc [.ref ((u 10)), .int v1] (xE dC dI cI adK adV adA u o g i a sz)) (va_Qi (xRg r2) (xBg dC dI cI u g2 i2 a2 (va_A (TW cI u o i a g) sz)) (va_A (TW cI u o i a g) sz)) k2.1 k2.2 ((va_A (TW cI u o i a g) sz)) := by
  refine Met.ofW (cc := b_Deeds_reverse) (maxL := 5) (ret := (some .int)) (by decide) rfl ?_
  intro p e s m args below meth c s₁ B hml hv
  obtain ⟨rfl, hsz, hP, hK, hE, hD0⟩ := hv
  have hx := B.exec
  have hb := B.bytes
  have hr := B.returns
  have hts := atoms_spec (ws := w_Deeds_reverse) B.pre
  have htt : ∀ w ∈ tw_T, w.before _ s = true := fun w h => hts w (List.mem_cons_of_mem _ h)
  have hown : s.vm.findClass R_Deeds = some m.cls := findClass_of_methodNamed B.named
  have hlocks := B.notSynchronized
  subst hsz
  have hD := hD0.self (sz := s.heap.size)
  generalize hAe : (va_A (TW cI u o i a g) s.heap.size) = A at hD hE ⊢
  have hA : ∀ q : Nat, s.heap.size ≤ q → A q := fun q h => by rw [← hAe]; exact Or.inr h
  have hS : va_S A s.heap s.heap [] := va_S.rf
  obtain ⟨mc, ms, emc, ems⟩ : ∃ mc ms : Nat, k2.1 = mc ∧ k2.2 = ms := ⟨_, _, rfl, rfl⟩
  have hkc : 0 + k2.1 = mc := by rw [Nat.zero_add]; exact emc
  have hks : 0 + k2.2 = ms := by rw [Nat.zero_add]; exact ems
  rw [emc, ems]
  clear emc ems
  have hl := lv_entry ([.ref ((u 10)), .int v1]) (n := 5) (Nat.le_of_ble_eq_true rfl)
  rw [lg_entry_eq]
  generalize (lg_sl ([.ref ((u 10)), .int v1]) ++ List.replicate (5 - (lg_sl ([.ref ((u 10)), .int v1])).length) Slot.unset).toArray = ls at hl ⊢
  have hl : lv_has ls 5 [(0, .ref ((u 10))), (1, .int v1)] := hl
  rw [m_Deeds_reverse] at hm
  refine lv_aload_n hx hb d_Deeds_reverse_0 rfl (lv_at hl 0 rfl) ?_
  refine va_get (D := (dC, dI)) (ci := 10) (v := .ref ((u 1))) (C := R_Deeds) (T := F_Deeds) (N := 8) hx hb htt iw_Deeds hown hK hP 10 xo_10 rfl 0 (Nat.le_of_ble_eq_true rfl) (htt _ lk_Deeds_15) (fun _ h9 => h9) xg_10_0 d_Deeds_reverse_1 ?_
  refine lv_iload_n hx hb d_Deeds_reverse_4 rfl (lv_at hl 1 rfl) ?_
  obtain ⟨r_2, h_1, hm⟩ := ob0_some hm
  have hFc := x_free0 hS hA
  refine xg_calli (va_runV (As := [.int v1]) (rest := []) ⟨hx, hb, hml, hown, hts⟩ (x_Heap_count l dC dI cI adK adV adA u o g s.heap.size n h_1) (cwV 1 hts (tw_GV tw_cons cw_Heap_count lk_Deeds_173 in_Heap_count sel_Heap_count ini_Heap) rfl rfl rfl ⟨rfl, hd_Heap_count⟩ ⟨Nat.le_of_ble_eq_true rfl, Nat.le_of_ble_eq_true rfl⟩) (xpVr hK hP hS hE hFc xo_1 rfl) rfl rfl hl.1 rfl (lv_room (Nat.le_of_ble_eq_true rfl)) d_Deeds_reverse_5 ⟨show 0 + 0 ≤ mc by omega, show 0 + 0 ≤ ms by omega⟩) hS (fun q _ h => hFc q h) hFc (fun kc_3 ks_4 r9 u9 t9 H locs ekc eks ht hvm e9 hB hz1 hk1 hS => ?_)
  replace hkc : kc_3 + k2.1 = mc := by omega
  replace hks : ks_4 + k2.2 = ms := by omega
  clear ekc eks
  have e9 : r_2 = r9 := e9
  subst e9
  replace hP := x_keep hP hk1
  clear hFc hk1 hz1 hvm hB ht
  refine lv_istore_n (lv' := [(2, .int r_2), (0, .ref ((u 10))), (1, .int v1)]) hx hb d_Deeds_reverse_8 rfl hl (by decide) rfl (fun ls hl => ?_)
  refine lv_aload_n hx hb d_Deeds_reverse_9 rfl (lv_at hl 1 rfl) ?_
  refine lv_iload_n hx hb d_Deeds_reverse_10 rfl (lv_at hl 0 rfl) ?_
  refine lv_aload_n hx hb d_Deeds_reverse_11 rfl (lv_at hl 1 rfl) ?_
  refine va_get (D := (dC, dI)) (ci := 10) (v := .ref ((u 1))) (C := R_Deeds) (T := F_Deeds) (N := 8) hx hb htt iw_Deeds hown hK hP 10 xo_10 rfl 0 (Nat.le_of_ble_eq_true rfl) (htt _ lk_Deeds_15) (fun _ h9 => h9) xg_10_0 d_Deeds_reverse_12 ?_
  refine lv_iload_n hx hb d_Deeds_reverse_15 rfl (lv_at hl 2 rfl) ?_
  obtain ⟨r_6, h_5, hm⟩ := ob0_some hm
  have hFc := x_free0 hS hA
  refine xg_calli (va_runV (As := [.int v1]) (rest := [.int r_2, .ref ((u 10))]) ⟨hx, hb, hml, hown, hts⟩ (x_Heap_size l dC dI cI adK adV adA u o g H.size n h_5) (cwV 1 hts (tw_GV tw_cons cw_Heap_size lk_Deeds_207 in_Heap_size sel_Heap_size ini_Heap) rfl rfl rfl ⟨rfl, hd_Heap_size⟩ ⟨Nat.le_of_ble_eq_true rfl, Nat.le_of_ble_eq_true rfl⟩) (xpVr hK hP hS hE hFc xo_1 rfl) rfl rfl hl.1 rfl (lv_room (Nat.le_of_ble_eq_true rfl)) d_Deeds_reverse_16 ⟨show kc_3 + 0 ≤ mc by omega, show ks_4 + 0 ≤ ms by omega⟩) hS (fun q _ h => hFc q h) hFc (fun kc_7 ks_8 r9 u9 t9 H locs ekc eks ht hvm e9 hB hz1 hk1 hS => ?_)
  replace hkc : kc_7 + k2.1 = mc := by omega
  replace hks : ks_8 + k2.2 = ms := by omega
  clear ekc eks
  have e9 : r_6 = r9 := e9
  subst e9
  replace hP := x_keep hP hk1
  clear hFc hk1 hz1 hvm hB ht
  obtain ⟨i_10, a_11, g_12, k_13, r_14, k_15, h_9, hm, e7, e8⟩ := obG_some hm
  have hFc := x_free hD hS hA
  refine xg_calli (va_runV (As := [.int r_2, .int r_6]) (rest := []) ⟨hx, hb, hml, hown, hts⟩ (x_Deeds_madeList l dC dI cI adK adV adA u o g H.size n h_9) (cwV 2 hts (tw_GV tw_cons cw_Deeds_madeList lk_Deeds_210 in_Deeds_madeList sel_Deeds_madeList ini_Deeds) rfl rfl rfl ⟨rfl, hd_Deeds_madeList⟩ ⟨Nat.le_of_ble_eq_true rfl, Nat.le_of_ble_eq_true rfl⟩) (xpV hK hP hD hS hE hFc xo_10 rfl) rfl rfl hl.1 rfl (lv_room (Nat.le_of_ble_eq_true rfl)) d_Deeds_reverse_19 ⟨show kc_7 + k_13.1 ≤ mc by omega, show ks_8 + k_13.2 ≤ ms by omega⟩) hS (fun q _ h => hFc q h) hFc (fun kc_17 ks_18 r9 o_16 t9 H locs ekc eks ht hvm e9 hB hz1 hk1 hS => ?_)
  replace hkc : kc_17 + k_15.1 = mc := by omega
  replace hks : ks_18 + k_15.2 = ms := by omega
  clear e7 e8
  clear ekc eks
  have e9 : r_14 = r9 := e9
  subst e9
  obtain ⟨hP, hD⟩ := x_aftg hB ht hFc
  clear hFc hk1 hz1 hvm hB ht
  refine lv_istore_n (lv' := [(3, .int r_14), (2, .int r_2), (0, .ref ((u 10))), (1, .int v1)]) hx hb d_Deeds_reverse_22 rfl hl (by decide) rfl (fun ls hl => ?_)
  refine lv_iconst (v := 0) hx hb d_Deeds_reverse_23 (by decide) ?_
  refine lv_istore (lv' := [(4, .int 0), (3, .int r_14), (2, .int r_2), (0, .ref ((u 10))), (1, .int v1)]) hx hb d_Deeds_reverse_24 hl (by decide) rfl (fun ls hl => ?_)
  exact lb_Deeds_reverse_26 l dC dI cI adK adV adA u n hx hb hml hown hts hK hE hA hr hlocks n _ _ _ _ _ _ _ _ hm o_16 kc_17 ks_18 hkc hks _ _ _ hP hD hS (lv_sub hl [3, 4, 2, 1, 0] rfl)

def m_Heap_numberIn_a28_b40 (n : Nat) (g : Nat → Nat) (i : Nat → Int32) (a : Nat → Nat → Int32) : Nat → Int32 → Int32 → Int32 → Int64 → Int32 → Option (Int32)
  | 0, _, _, _, _, _ => none
  | f + 1, v1, v2, v3, v4, v6 => if v2 ≤ v6 then if v3 = v2 then some ((-2147483648)) else if ((lg_cmp v4 1000000000)) ≤ ((0 : Int32)) then if v3 ≤ v1 then ob0 (m_Heap_number n v4.toInt32) (fun r_6 => some r_6) else ob0 (m_Heap_number n ((-v4).toInt32)) (fun r_8 => some r_8) else some ((-2147483639)) else ck v6 8192 (ob1 ((a 28 v6.toNatClampNeg) - 48 : Int32) (fun x_10 => if x_10 < ((0 : Int32)) then some ((-2147483648)) else if x_10 ≤ ((9 : Int32)) then ob0 (m_Math_min2 n ((10 * v4) + x_10.toInt64) (1000000001 : Int64)) (fun r_14 => ob1 (v6 + 1 : Int32) (fun x_15 => m_Heap_numberIn_a28_b40 n g i a f v1 v2 v3 r_14 x_15)) else some ((-2147483648))))
set_option maxHeartbeats 4000000 in
set_option maxRecDepth 100000 in
theorem lb_Heap_numberIn_a28_40 (l : Launch) (dC : Nat → ClassId) (dI : Nat → Nat → Nat) (cI : ClassId) (adK adV adA u o g : Nat → Nat) (n : Nat) {p : Program} {e : Env} {s : State} {m : MethodId} {args : Array Value} {below : List Frame} {meth : Method} {c : Code} {A : Nat → Prop} (hx : p.tables.exec = Jvm.exec) (hb : c.code = b_Heap_numberIn) (hml : c.maxLocals = 8) (hown : s.vm.findClass R_Heap = some m.cls) (hts : ∀ w ∈ w_Heap_numberIn, w.before args s = true) (hK : va_K (dC, dI) classes [(cI, .int)] s) (hE : tw_E adK adV adA A s s.heap) (hA : ∀ q : Nat, s.heap.size ≤ q → A q) (hr : meth.sig.returnType = (some .int)) (hlocks : meth.locks = false) {i : Nat → Int32} {a : Nat → Nat → Int32} {r2 : Int32} : ∀ (f : Nat) (v1 : Int32) (v2 : Int32) (v3 : Int32) (v4 : Int64) (v6 : Int32), m_Heap_numberIn_a28_b40 n g i a f v1 v2 v3 v4 v6 = some r2 → ∀ (H : Heap) (locs : List Loc) (ls : Array Slot), va_P (dC, dI) classes (TW cI u o i a g) H → va_S A s.heap H locs → lv_has ls 8 [(0, .ref ((u 38))), (1, .int v1), (2, .int v2), (3, .int v3), (4, .long v4), (6, .int v6)] → W p l e ({ frames := 1, cells := 0, slots := 0, locals := 23 } : Room) s m args below meth c H locs 0 0 (MQ below (va_Qi (xR r2) xT A) args s 0 0 A) (F0 m 40 ls []) := by
  have htt : ∀ w ∈ tw_T, w.before _ s = true := fun w h => hts w (List.mem_cons_of_mem _ h)
  intro f
  induction f with
  | zero =>
    intro v1 v2 v3 v4 v6 hm
    rw [m_Heap_numberIn_a28_b40] at hm
    cases hm
  | succ f ih =>
    intro v1 v2 v3 v4 v6 hm H locs ls hP hS hl
    rw [m_Heap_numberIn_a28_b40] at hm
    refine lv_iload hx hb d_Heap_numberIn_40 (lv_at hl 5 rfl) ?_
    refine lv_iload_n hx hb d_Heap_numberIn_42 rfl (lv_at hl 2 rfl) ?_
    refine lv_icmp_ge (tgt := 94) hx hb d_Heap_numberIn_43 (by decide) (fun c_1 => ?_) (fun c_1 => ?_)
    · replace hm := if_t c_1 hm
      refine lv_iload_n hx hb d_Heap_numberIn_94 rfl (lv_at hl 3 rfl) ?_
      refine lv_iload_n hx hb d_Heap_numberIn_95 rfl (lv_at hl 2 rfl) ?_
      refine lv_icmp_ne (tgt := 102) hx hb d_Heap_numberIn_96 (by decide) (fun c_2 => ?_) (fun c_2 => ?_)
      · replace hm := if_f c_2 hm
        refine lv_lload hx hb d_Heap_numberIn_102 (lv_at hl 4 rfl) ?_
        refine lv_ldc2 (v := 1000000000) hx hb hown (htt _ lk_Heap_82) d_Heap_numberIn_104 ?_
        refine W.lcmp hx hb d_Heap_numberIn_107 ?_
        refine lv_if_le (tgt := 114) hx hb d_Heap_numberIn_108 (by decide) (fun c_3 => ?_) (fun c_3 => ?_)
        · replace hm := if_t c_3 hm
          refine lv_iload_n hx hb d_Heap_numberIn_114 rfl (lv_at hl 3 rfl) ?_
          refine lv_iload_n hx hb d_Heap_numberIn_115 rfl (lv_at hl 1 rfl) ?_
          refine lv_icmp_le (tgt := 125) hx hb d_Heap_numberIn_116 (by decide) (fun c_4 => ?_) (fun c_4 => ?_)
          · replace hm := if_t c_4 hm
            refine lv_lload hx hb d_Heap_numberIn_125 (lv_at hl 4 rfl) ?_
            refine lv_l2i hx hb d_Heap_numberIn_127 rfl ?_
            obtain ⟨r_6, h_5, hm⟩ := ob0_some hm
            have hFc := x_free0 hS hA
            refine va_calli (va_runS (As := [.int v4.toInt32]) (rest := []) ⟨hx, hb, hml, hown, hts⟩ (x_Heap_number l H.size n h_5) (va_cwS 1 hts (tw_GS tw_cons cw_Heap_number lk_Heap_85 st_Heap_number ini_Heap) rfl rfl rfl hd_Heap_number ⟨Nat.le_of_ble_eq_true rfl, Nat.le_of_ble_eq_true rfl⟩) xpS0 rfl rfl hl.1 rfl (lv_room (Nat.le_of_ble_eq_true rfl)) d_Heap_numberIn_128 ⟨Nat.le_of_ble_eq_true rfl, Nat.le_of_ble_eq_true rfl⟩) hS (fun q _ h => hFc q h) hFc (fun r9 u9 t9 H locs ht hvm e9 hB hz1 hk1 hS => ?_)
            have e9 : r_6 = r9 := e9
            subst e9
            replace hP := x_keep hP hk1
            clear hFc hk1 hz1 hvm hB ht
            have e3 := re1 hm
            exact W.iret hx hb hr (fun t9 ht hW => ⟨⟨_, (), rfl, e3.symm, trivial⟩, hS.F ht⟩) hS.2.2 d_Heap_numberIn_131
          · replace hm := if_f c_4 hm
            refine lv_lload hx hb d_Heap_numberIn_119 (lv_at hl 4 rfl) ?_
            refine lv_lneg hx hb d_Heap_numberIn_121 ?_
            refine lv_goto (tgt := 127) hx hb d_Heap_numberIn_122 (by decide) ?_
            refine lv_l2i hx hb d_Heap_numberIn_127 rfl ?_
            obtain ⟨r_8, h_7, hm⟩ := ob0_some hm
            have hFc := x_free0 hS hA
            refine va_calli (va_runS (As := [.int ((-v4).toInt32)]) (rest := []) ⟨hx, hb, hml, hown, hts⟩ (x_Heap_number l H.size n h_7) (va_cwS 1 hts (tw_GS tw_cons cw_Heap_number lk_Heap_85 st_Heap_number ini_Heap) rfl rfl rfl hd_Heap_number ⟨Nat.le_of_ble_eq_true rfl, Nat.le_of_ble_eq_true rfl⟩) xpS0 rfl rfl hl.1 rfl (lv_room (Nat.le_of_ble_eq_true rfl)) d_Heap_numberIn_128 ⟨Nat.le_of_ble_eq_true rfl, Nat.le_of_ble_eq_true rfl⟩) hS (fun q _ h => hFc q h) hFc (fun r9 u9 t9 H locs ht hvm e9 hB hz1 hk1 hS => ?_)
            have e9 : r_8 = r9 := e9
            subst e9
            replace hP := x_keep hP hk1
            clear hFc hk1 hz1 hvm hB ht
            have e3 := re1 hm
            exact W.iret hx hb hr (fun t9 ht hW => ⟨⟨_, (), rfl, e3.symm, trivial⟩, hS.F ht⟩) hS.2.2 d_Heap_numberIn_131
        · replace hm := if_f c_3 hm
          refine lv_ldc (v := (-2147483639)) hx hb hown (htt _ lk_Heap_84) d_Heap_numberIn_111 ?_
          have e3 := re1 hm
          exact W.iret hx hb hr (fun t9 ht hW => ⟨⟨_, (), rfl, e3.symm, trivial⟩, hS.F ht⟩) hS.2.2 d_Heap_numberIn_113
      · replace hm := if_t c_2 hm
        refine lv_ldc (v := (-2147483648)) hx hb hown (htt _ lk_Heap_71) d_Heap_numberIn_99 ?_
        have e3 := re1 hm
        exact W.iret hx hb hr (fun t9 ht hW => ⟨⟨_, (), rfl, e3.symm, trivial⟩, hS.F ht⟩) hS.2.2 d_Heap_numberIn_101
    · replace hm := if_f c_1 hm
      refine lv_aload_n hx hb d_Heap_numberIn_46 rfl (lv_at hl 0 rfl) ?_
      refine lv_iload hx hb d_Heap_numberIn_47 (lv_at hl 5 rfl) ?_
      obtain ⟨h_9, hm⟩ := ck_some hm
      refine va_iald hx hb hK hP 40 0 twA_28 rfl h_9 d_Heap_numberIn_49 ?_
      refine lv_bipush (v := 48) hx hb d_Heap_numberIn_50 (by decide) ?_
      refine lv_isub hx hb d_Heap_numberIn_52 ?_
      refine lv_topi (fun x_10 ex_10 => ?_)
      replace hm := ob1_at ex_10 hm
      refine lv_istore (lv' := [(7, .int x_10), (0, .ref ((u 38))), (1, .int v1), (2, .int v2), (3, .int v3), (4, .long v4), (6, .int v6)]) hx hb d_Heap_numberIn_53 hl (by decide) rfl (fun ls hl => ?_)
      refine lv_iload hx hb d_Heap_numberIn_55 (lv_at hl 0 rfl) ?_
      refine lv_if_lt (tgt := 67) hx hb d_Heap_numberIn_57 (by decide) (fun c_11 => ?_) (fun c_11 => ?_)
      · replace hm := if_t c_11 hm
        refine lv_ldc (v := (-2147483648)) hx hb hown (htt _ lk_Heap_71) d_Heap_numberIn_67 ?_
        have e3 := re1 hm
        exact W.iret hx hb hr (fun t9 ht hW => ⟨⟨_, (), rfl, e3.symm, trivial⟩, hS.F ht⟩) hS.2.2 d_Heap_numberIn_69
      · replace hm := if_f c_11 hm
        refine lv_iload hx hb d_Heap_numberIn_60 (lv_at hl 0 rfl) ?_
        refine lv_bipush (v := 9) hx hb d_Heap_numberIn_62 (by decide) ?_
        refine lv_icmp_le (tgt := 70) hx hb d_Heap_numberIn_64 (by decide) (fun c_12 => ?_) (fun c_12 => ?_)
        · replace hm := if_t c_12 hm
          refine lv_ldc2 (v := 10) hx hb hown (htt _ lk_Heap_72) d_Heap_numberIn_70 ?_
          refine lv_lload hx hb d_Heap_numberIn_73 (lv_at hl 5 rfl) ?_
          refine lv_lmul hx hb d_Heap_numberIn_75 ?_
          refine lv_iload hx hb d_Heap_numberIn_76 (lv_at hl 0 rfl) ?_
          refine lv_i2l hx hb d_Heap_numberIn_78 rfl ?_
          refine lv_ladd hx hb d_Heap_numberIn_79 ?_
          refine lv_ldc2 (v := 1000000001) hx hb hown (htt _ lk_Heap_74) d_Heap_numberIn_80 ?_
          obtain ⟨r_14, h_13, hm⟩ := ob0_some hm
          have hFc := x_free0 hS hA
          refine va_calll (va_runS (As := [.long ((10 * v4) + x_10.toInt64), .long 1000000001]) (rest := []) ⟨hx, hb, hml, hown, hts⟩ (x_Math_min2 l H.size n h_13) (va_cwS 2 hts (tw_GS tw_cons cw_Math_min2 lk_Heap_76 st_Math_min2 ini_Math) rfl rfl rfl hd_Math_min2 ⟨Nat.le_of_ble_eq_true rfl, Nat.le_of_ble_eq_true rfl⟩) xpS0 rfl rfl hl.1 rfl (lv_room (Nat.le_of_ble_eq_true rfl)) d_Heap_numberIn_83 ⟨Nat.le_of_ble_eq_true rfl, Nat.le_of_ble_eq_true rfl⟩) hS (fun q _ h => hFc q h) hFc (fun r9 u9 t9 H locs ht hvm e9 hB hz1 hk1 hS => ?_)
          have e9 : r_14 = r9 := e9
          subst e9
          replace hP := x_keep hP hk1
          clear hFc hk1 hz1 hvm hB ht
          refine lv_lstore (lv' := [(4, .long r_14), (7, .int x_10), (0, .ref ((u 38))), (1, .int v1), (2, .int v2), (3, .int v3), (6, .int v6)]) hx hb d_Heap_numberIn_86 hl (by decide) rfl (fun ls hl => ?_)
          obtain ⟨x_15, ex_15⟩ : ∃ y9 : Int32, y9 = v6 + 1 := ⟨_, rfl⟩
          replace hm := ob1_at ex_15 hm
          refine lv_iinc (v := x_15) (lv' := [(6, .int x_15), (4, .long r_14), (7, .int x_10), (0, .ref ((u 38))), (1, .int v1), (2, .int v2), (3, .int v3)]) hx hb d_Heap_numberIn_88 hl (k := 6) rfl (by rw [ex_15]; rfl) (by decide) rfl (fun ls hl => ?_)
          refine lv_goto (tgt := 40) hx hb d_Heap_numberIn_91 (by decide) ?_
          exact ih _ _ _ _ _ hm _ _ _ hP hS (lv_sub hl [3, 4, 5, 6, 1, 0] rfl)
        · replace hm := if_f c_12 hm
          refine lv_ldc (v := (-2147483648)) hx hb hown (htt _ lk_Heap_71) d_Heap_numberIn_67 ?_
          have e3 := re1 hm
          exact W.iret hx hb hr (fun t9 ht hW => ⟨⟨_, (), rfl, e3.symm, trivial⟩, hS.F ht⟩) hS.2.2 d_Heap_numberIn_69
def m_Heap_numberIn_a28_b33 (n : Nat) (g : Nat → Nat) (i : Nat → Int32) (a : Nat → Nat → Int32) (v1 : Int32) (v2 : Int32) (s0 : Int32) : Option (Int32) := m_Heap_numberIn_a28_b40 n g i a n v1 v2 s0 (0 : Int64) s0
set_option maxHeartbeats 4000000 in
set_option maxRecDepth 100000 in
theorem lb_Heap_numberIn_a28_33 (l : Launch) (dC : Nat → ClassId) (dI : Nat → Nat → Nat) (cI : ClassId) (adK adV adA u o g : Nat → Nat) (n : Nat) {p : Program} {e : Env} {s : State} {m : MethodId} {args : Array Value} {below : List Frame} {meth : Method} {c : Code} {A : Nat → Prop} (hx : p.tables.exec = Jvm.exec) (hb : c.code = b_Heap_numberIn) (hml : c.maxLocals = 8) (hown : s.vm.findClass R_Heap = some m.cls) (hts : ∀ w ∈ w_Heap_numberIn, w.before args s = true) (hK : va_K (dC, dI) classes [(cI, .int)] s) (hE : tw_E adK adV adA A s s.heap) (hA : ∀ q : Nat, s.heap.size ≤ q → A q) (hr : meth.sig.returnType = (some .int)) (hlocks : meth.locks = false) {i : Nat → Int32} {a : Nat → Nat → Int32} {r2 : Int32} (v1 : Int32) (v2 : Int32) (s0 : Int32) (hm : m_Heap_numberIn_a28_b33 n g i a v1 v2 s0 = some r2) : ∀ (H : Heap) (locs : List Loc) (ls : Array Slot), va_P (dC, dI) classes (TW cI u o i a g) H → va_S A s.heap H locs → lv_has ls 8 [(0, .ref ((u 38))), (1, .int v1), (2, .int v2)] → W p l e ({ frames := 1, cells := 0, slots := 0, locals := 23 } : Room) s m args below meth c H locs 0 0 (MQ below (va_Qi (xR r2) xT A) args s 0 0 A) (F0 m 33 ls [.int s0]) := by
  have htt : ∀ w ∈ tw_T, w.before _ s = true := fun w h => hts w (List.mem_cons_of_mem _ h)
  intro H locs ls hP hS hl
  rw [m_Heap_numberIn_a28_b33] at hm
  refine lv_istore_n (lv' := [(3, .int s0), (0, .ref ((u 38))), (1, .int v1), (2, .int v2)]) hx hb d_Heap_numberIn_33 rfl hl (by decide) rfl (fun ls hl => ?_)
  refine lv_lconst (v := 0) hx hb d_Heap_numberIn_34 (by decide) ?_
  refine lv_lstore (lv' := [(4, .long 0), (3, .int s0), (0, .ref ((u 38))), (1, .int v1), (2, .int v2)]) hx hb d_Heap_numberIn_35 hl (by decide) rfl (fun ls hl => ?_)
  refine lv_iload_n hx hb d_Heap_numberIn_37 rfl (lv_at hl 1 rfl) ?_
  refine lv_istore (lv' := [(6, .int s0), (4, .long 0), (3, .int s0), (0, .ref ((u 38))), (1, .int v1), (2, .int v2)]) hx hb d_Heap_numberIn_38 hl (by decide) rfl (fun ls hl => ?_)
  exact lb_Heap_numberIn_a28_40 l dC dI cI adK adV adA u o g n hx hb hml hown hts hK hE hA hr hlocks n _ _ _ _ _ hm _ _ _ hP hS (lv_sub hl [3, 4, 5, 2, 1, 0] rfl)
def m_Heap_numberIn_a28 (n : Nat) (g : Nat → Nat) (i : Nat → Int32) (a : Nat → Nat → Int32) (v1 : Int32) (v2 : Int32) : Option (Int32) := if v1 < ((0 : Int32)) then some ((-2147483648)) else if ((nI 8192)) < v2 then some ((-2147483648)) else if v1 < v2 then ck v1 8192 (if ((a 28 v1.toNatClampNeg)) = ((45 : Int32)) then m_Heap_numberIn_a28_b33 n g i a v1 v2 (v1 + 1) else m_Heap_numberIn_a28_b33 n g i a v1 v2 v1) else some ((-2147483648))
set_option maxHeartbeats 4000000 in
set_option maxRecDepth 100000 in
theorem x_Heap_numberIn_a28 (l : Launch) (dC : Nat → ClassId) (dI : Nat → Nat → Nat) (cI : ClassId) (adK adV adA u o g : Nat → Nat) (sz : Nat) (n : Nat) {i : Nat → Int32} {a : Nat → Nat → Int32} {v1 : Int32} {v2 : Int32} {r2 : Int32} (hm : m_Heap_numberIn_a28 n g i a v1 v2 = some r2) : Met l y_Heap_numberIn w_Heap_numberIn ({ frames := 1, cells := 0, slots := 0, locals := 23 } : Room) (va_Pc [.ref ((u 38)), .int v1, .int v2] (xEr dC dI cI adK adV adA u o g i a sz)) (va_Qi (xR r2) xT (xN sz)) 0 0 (xN sz) := by
  refine Met.ofW (cc := b_Heap_numberIn) (maxL := 8) (ret := (some .int)) (by decide) rfl ?_
  intro p e s m args below meth c s₁ B hml hv
  obtain ⟨rfl, hsz, hP, hK, hE⟩ := hv
  have hx := B.exec
  have hb := B.bytes
  have hr := B.returns
  have hts := atoms_spec (ws := w_Heap_numberIn) B.pre
  have htt : ∀ w ∈ tw_T, w.before _ s = true := fun w h => hts w (List.mem_cons_of_mem _ h)
  have hown : s.vm.findClass R_Heap = some m.cls := findClass_of_methodNamed B.named
  have hlocks := B.notSynchronized
  subst hsz
  generalize hAe : xN s.heap.size = A at hE ⊢
  have hA : ∀ q : Nat, s.heap.size ≤ q → A q := fun q h => by rw [← hAe]; exact Or.inr h
  have hS : va_S A s.heap s.heap [] := va_S.rf
  have hl := lv_entry ([.ref ((u 38)), .int v1, .int v2]) (n := 8) (Nat.le_of_ble_eq_true rfl)
  rw [lg_entry_eq]
  generalize (lg_sl ([.ref ((u 38)), .int v1, .int v2]) ++ List.replicate (8 - (lg_sl ([.ref ((u 38)), .int v1, .int v2])).length) Slot.unset).toArray = ls at hl ⊢
  have hl : lv_has ls 8 [(0, .ref ((u 38))), (1, .int v1), (2, .int v2)] := hl
  rw [m_Heap_numberIn_a28] at hm
  refine lv_iload_n hx hb d_Heap_numberIn_0 rfl (lv_at hl 1 rfl) ?_
  refine lv_if_lt (tgt := 15) hx hb d_Heap_numberIn_1 (by decide) (fun c_1 => ?_) (fun c_1 => ?_)
  · replace hm := if_t c_1 hm
    refine lv_ldc (v := (-2147483648)) hx hb hown (htt _ lk_Heap_71) d_Heap_numberIn_15 ?_
    have e3 := re1 hm
    exact W.iret hx hb hr (fun t9 ht hW => ⟨⟨_, (), rfl, e3.symm, trivial⟩, hS.F ht⟩) hS.2.2 d_Heap_numberIn_17
  · replace hm := if_f c_1 hm
    refine lv_iload_n hx hb d_Heap_numberIn_4 rfl (lv_at hl 2 rfl) ?_
    refine lv_aload_n hx hb d_Heap_numberIn_5 rfl (lv_at hl 0 rfl) ?_
    refine va_alen (v := nI 8192) hx hb hK hP 40 0 twA_28 rfl rfl d_Heap_numberIn_6 ?_
    refine lv_icmp_gt (tgt := 15) hx hb d_Heap_numberIn_7 (by decide) (fun c_2 => ?_) (fun c_2 => ?_)
    · replace hm := if_t c_2 hm
      refine lv_ldc (v := (-2147483648)) hx hb hown (htt _ lk_Heap_71) d_Heap_numberIn_15 ?_
      have e3 := re1 hm
      exact W.iret hx hb hr (fun t9 ht hW => ⟨⟨_, (), rfl, e3.symm, trivial⟩, hS.F ht⟩) hS.2.2 d_Heap_numberIn_17
    · replace hm := if_f c_2 hm
      refine lv_iload_n hx hb d_Heap_numberIn_10 rfl (lv_at hl 1 rfl) ?_
      refine lv_iload_n hx hb d_Heap_numberIn_11 rfl (lv_at hl 2 rfl) ?_
      refine lv_icmp_lt (tgt := 18) hx hb d_Heap_numberIn_12 (by decide) (fun c_3 => ?_) (fun c_3 => ?_)
      · replace hm := if_t c_3 hm
        refine lv_aload_n hx hb d_Heap_numberIn_18 rfl (lv_at hl 0 rfl) ?_
        refine lv_iload_n hx hb d_Heap_numberIn_19 rfl (lv_at hl 1 rfl) ?_
        obtain ⟨h_4, hm⟩ := ck_some hm
        refine va_iald hx hb hK hP 40 0 twA_28 rfl h_4 d_Heap_numberIn_20 ?_
        refine lv_bipush (v := 45) hx hb d_Heap_numberIn_21 (by decide) ?_
        refine lv_icmp_ne (tgt := 32) hx hb d_Heap_numberIn_23 (by decide) (fun c_5 => ?_) (fun c_5 => ?_)
        · replace hm := if_f c_5 hm
          refine lv_iload_n hx hb d_Heap_numberIn_32 rfl (lv_at hl 1 rfl) ?_
          exact lb_Heap_numberIn_a28_33 l dC dI cI adK adV adA u o g n hx hb hml hown hts hK hE hA hr hlocks _ _ _ hm _ _ _ hP hS (lv_sub hl [0, 1, 2] rfl)
        · replace hm := if_t c_5 hm
          refine lv_iload_n hx hb d_Heap_numberIn_26 rfl (lv_at hl 1 rfl) ?_
          refine lv_iconst (v := 1) hx hb d_Heap_numberIn_27 (by decide) ?_
          refine lv_iadd hx hb d_Heap_numberIn_28 ?_
          refine lv_goto (tgt := 33) hx hb d_Heap_numberIn_29 (by decide) ?_
          exact lb_Heap_numberIn_a28_33 l dC dI cI adK adV adA u o g n hx hb hml hown hts hK hE hA hr hlocks _ _ _ hm _ _ _ hP hS (lv_sub hl [0, 1, 2] rfl)
      · replace hm := if_f c_3 hm
        refine lv_ldc (v := (-2147483648)) hx hb hown (htt _ lk_Heap_71) d_Heap_numberIn_15 ?_
        have e3 := re1 hm
        exact W.iret hx hb hr (fun t9 ht hW => ⟨⟨_, (), rfl, e3.symm, trivial⟩, hS.F ht⟩) hS.2.2 d_Heap_numberIn_17

def m_Heap_newWord_a28 (n : Nat) (g : Nat → Nat) (i : Nat → Int32) (a : Nat → Nat → Int32) (v2 : Int32) (v3 : Int32) : Option ((Nat → Int32) × (Nat → Nat → Int32) × (Nat → Nat) × (Nat × Nat) × Int32) := if v2 < ((0 : Int32)) then some (i, a, g, (0, 0), (-2147483648)) else if v3 < ((1 : Int32)) then some (i, a, g, (0, 0), (-2147483648)) else if (((nI 8192) - v2)) < v3 then some (i, a, g, (0, 0), (-2147483648)) else obG (m_Heap_reserve n g i a (v3 + 2)) (fun i_5 a_6 g_7 r_9 => if r_9 = ((0 : Int32)) then some (i_5, a_6, g_7, (0, 0), (-2147483648)) else ob1 ((i_5 8) + 1 : Int32) (fun x_15 => cy v2 x_15 v3 8192 (g_7 0) (ob1 (updA a_6 0 (va_cpy (a_6 28) (a_6 0) v2.toNatClampNeg x_15.toNatClampNeg v3.toNatClampNeg) : Nat → Nat → Int32) (fun a_17 => ck ((x_15 + v3)) (g_7 0) (ob1 (sv a_17 0 (x_15 + v3).toNatClampNeg 0 : Nat → Nat → Int32) (fun a_19 => ob0 (m_Lexicon_meaning_a0 n g_7 i_5 a_19 x_15) (fun r_21 => ck ((i_5 8)) (g_7 0) (ob1 (sv a_19 0 (i_5 8).toNatClampNeg (128 + r_21) : Nat → Nat → Int32) (fun a_25 => ob1 ((x_15 + v3) + 1 : Int32) (fun x_26 => ob1 (upd i_5 8 x_26 : Nat → Int32) (fun i_27 => some (i_27, a_25, g_7, (0, 0), (x_15 <<< ((2 : Int32) &&& 31)) ||| 3))))))))))))
set_option maxHeartbeats 4000000 in
set_option maxRecDepth 100000 in
theorem x_Heap_newWord_a28 (l : Launch) (dC : Nat → ClassId) (dI : Nat → Nat → Nat) (cI : ClassId) (adK adV adA u o g : Nat → Nat) (sz : Nat) (n : Nat) {i : Nat → Int32} {a : Nat → Nat → Int32} {v2 : Int32} {v3 : Int32} {i2 : Nat → Int32} {a2 : Nat → Nat → Int32} {g2 : Nat → Nat} {k2 : Nat × Nat} {r2 : Int32} (hm : m_Heap_newWord_a28 n g i a v2 v3 = some (i2, a2, g2, k2, r2)) : Met l y_Heap_newWord w_Heap_newWord ({ frames := 3, cells := k2.1, slots := k2.2, locals := 84 } : Room) (va_Pc [.ref ((u 1)), .ref ((u 38)), .int v2, .int v3] (xE dC dI cI adK adV adA u o g i a sz)) (va_Qi (xRg r2) (xBg dC dI cI u g2 i2 a2 (va_A (TW cI u o i a g) sz)) (va_A (TW cI u o i a g) sz)) k2.1 k2.2 ((va_A (TW cI u o i a g) sz)) := by
  refine Met.ofW (cc := b_Heap_newWord) (maxL := 5) (ret := (some .int)) (by decide) rfl ?_
  intro p e s m args below meth c s₁ B hml hv
  obtain ⟨rfl, hsz, hP, hK, hE, hD0⟩ := hv
  have hx := B.exec
  have hb := B.bytes
  have hr := B.returns
  have hts := atoms_spec (ws := w_Heap_newWord) B.pre
  have htt : ∀ w ∈ tw_T, w.before _ s = true := fun w h => hts w (List.mem_cons_of_mem _ h)
  have hown : s.vm.findClass R_Heap = some m.cls := findClass_of_methodNamed B.named
  have hlocks := B.notSynchronized
  subst hsz
  have hD := hD0.self (sz := s.heap.size)
  generalize hAe : (va_A (TW cI u o i a g) s.heap.size) = A at hD hE ⊢
  have hA : ∀ q : Nat, s.heap.size ≤ q → A q := fun q h => by rw [← hAe]; exact Or.inr h
  have hS : va_S A s.heap s.heap [] := va_S.rf
  obtain ⟨mc, ms, emc, ems⟩ : ∃ mc ms : Nat, k2.1 = mc ∧ k2.2 = ms := ⟨_, _, rfl, rfl⟩
  have hkc : 0 + k2.1 = mc := by rw [Nat.zero_add]; exact emc
  have hks : 0 + k2.2 = ms := by rw [Nat.zero_add]; exact ems
  rw [emc, ems]
  clear emc ems
  have hl := lv_entry ([.ref ((u 1)), .ref ((u 38)), .int v2, .int v3]) (n := 5) (Nat.le_of_ble_eq_true rfl)
  rw [lg_entry_eq]
  generalize (lg_sl ([.ref ((u 1)), .ref ((u 38)), .int v2, .int v3]) ++ List.replicate (5 - (lg_sl ([.ref ((u 1)), .ref ((u 38)), .int v2, .int v3])).length) Slot.unset).toArray = ls at hl ⊢
  have hl : lv_has ls 5 [(0, .ref ((u 1))), (1, .ref ((u 38))), (2, .int v2), (3, .int v3)] := hl
  rw [m_Heap_newWord_a28] at hm
  refine lv_iload_n hx hb d_Heap_newWord_0 rfl (lv_at hl 2 rfl) ?_
  refine lv_if_lt (tgt := 27) hx hb d_Heap_newWord_1 (by decide) (fun c_1 => ?_) (fun c_1 => ?_)
  · replace hm := if_t c_1 hm
    refine lv_ldc (v := (-2147483648)) hx hb hown (htt _ lk_Heap_71) d_Heap_newWord_27 ?_
    obtain ⟨e1, e2, e4, e5, e6, e3⟩ := re5 hm
    obtain ⟨hP, hD⟩ := x_eqg e1 e2 e4 hP hD
    refine W.widen (k := mc) (n := ms) (show 0 ≤ mc by omega) (show 0 ≤ ms by omega) ?_
    exact W.iret hx hb hr (fun t9 ht hW => ⟨⟨_, o, rfl, e3.symm, by rw [ht]; exact hP, hD⟩, hS.F ht⟩) hS.2.2 d_Heap_newWord_29
  · replace hm := if_f c_1 hm
    refine lv_iload_n hx hb d_Heap_newWord_4 rfl (lv_at hl 3 rfl) ?_
    refine lv_iconst (v := 1) hx hb d_Heap_newWord_5 (by decide) ?_
    refine lv_icmp_lt (tgt := 27) hx hb d_Heap_newWord_6 (by decide) (fun c_2 => ?_) (fun c_2 => ?_)
    · replace hm := if_t c_2 hm
      refine lv_ldc (v := (-2147483648)) hx hb hown (htt _ lk_Heap_71) d_Heap_newWord_27 ?_
      obtain ⟨e1, e2, e4, e5, e6, e3⟩ := re5 hm
      obtain ⟨hP, hD⟩ := x_eqg e1 e2 e4 hP hD
      refine W.widen (k := mc) (n := ms) (show 0 ≤ mc by omega) (show 0 ≤ ms by omega) ?_
      exact W.iret hx hb hr (fun t9 ht hW => ⟨⟨_, o, rfl, e3.symm, by rw [ht]; exact hP, hD⟩, hS.F ht⟩) hS.2.2 d_Heap_newWord_29
    · replace hm := if_f c_2 hm
      refine lv_iload_n hx hb d_Heap_newWord_9 rfl (lv_at hl 3 rfl) ?_
      refine lv_aload_n hx hb d_Heap_newWord_10 rfl (lv_at hl 1 rfl) ?_
      refine va_alen (v := nI 8192) hx hb hK hP 40 0 twA_28 rfl rfl d_Heap_newWord_11 ?_
      refine lv_iload_n hx hb d_Heap_newWord_12 rfl (lv_at hl 2 rfl) ?_
      refine lv_isub hx hb d_Heap_newWord_13 ?_
      refine lv_icmp_gt (tgt := 27) hx hb d_Heap_newWord_14 (by decide) (fun c_3 => ?_) (fun c_3 => ?_)
      · replace hm := if_t c_3 hm
        refine lv_ldc (v := (-2147483648)) hx hb hown (htt _ lk_Heap_71) d_Heap_newWord_27 ?_
        obtain ⟨e1, e2, e4, e5, e6, e3⟩ := re5 hm
        obtain ⟨hP, hD⟩ := x_eqg e1 e2 e4 hP hD
        refine W.widen (k := mc) (n := ms) (show 0 ≤ mc by omega) (show 0 ≤ ms by omega) ?_
        exact W.iret hx hb hr (fun t9 ht hW => ⟨⟨_, o, rfl, e3.symm, by rw [ht]; exact hP, hD⟩, hS.F ht⟩) hS.2.2 d_Heap_newWord_29
      · replace hm := if_f c_3 hm
        refine lv_aload_n hx hb d_Heap_newWord_17 rfl (lv_at hl 0 rfl) ?_
        refine lv_iload_n hx hb d_Heap_newWord_18 rfl (lv_at hl 3 rfl) ?_
        refine lv_iconst (v := 2) hx hb d_Heap_newWord_19 (by decide) ?_
        refine lv_iadd hx hb d_Heap_newWord_20 ?_
        obtain ⟨i_5, a_6, g_7, k_8, r_9, k_10, h_4, hm, e7, e8⟩ := obG_some hm
        have hFc := x_free hD hS hA
        refine xg_calli (va_runV (As := [.int (v3 + 2)]) (rest := []) ⟨hx, hb, hml, hown, hts⟩ (x_Heap_reserve l dC dI cI adK adV adA u o g s.heap.size n h_4) (cwV 1 hts (tw_GV tw_cons cw_Heap_reserve lk_Heap_102 in_Heap_reserve sel_Heap_reserve ini_Heap) rfl rfl rfl ⟨rfl, hd_Heap_reserve⟩ ⟨Nat.le_of_ble_eq_true rfl, Nat.le_of_ble_eq_true rfl⟩) (xpV hK hP hD hS hE hFc xo_1 rfl) rfl rfl hl.1 rfl (lv_room (Nat.le_of_ble_eq_true rfl)) d_Heap_newWord_21 ⟨show 0 + k_8.1 ≤ mc by omega, show 0 + k_8.2 ≤ ms by omega⟩) hS (fun q _ h => hFc q h) hFc (fun kc_12 ks_13 r9 o_11 t9 H locs ekc eks ht hvm e9 hB hz1 hk1 hS => ?_)
        replace hkc : kc_12 + k_10.1 = mc := by omega
        replace hks : ks_13 + k_10.2 = ms := by omega
        clear e7 e8
        clear ekc eks
        have e9 : r_9 = r9 := e9
        subst e9
        obtain ⟨hP, hD⟩ := x_aftg hB ht hFc
        clear hFc hk1 hz1 hvm hB ht
        refine lv_if_ne (tgt := 30) hx hb d_Heap_newWord_24 (by decide) (fun c_14 => ?_) (fun c_14 => ?_)
        · replace hm := if_f c_14 hm
          refine lv_aload_n hx hb d_Heap_newWord_30 rfl (lv_at hl 0 rfl) ?_
          refine va_get (D := (dC, dI)) (ci := 1) (v := .int (i_5 8)) (C := R_Heap) (T := F_Heap) (N := 12) hx hb htt iw_Heap hown hK hP 1 xo_1 rfl 7 (Nat.le_of_ble_eq_true rfl) (htt _ lk_Heap_18) (fun _ h9 => h9) xg_1_7 d_Heap_newWord_31 ?_
          refine lv_iconst (v := 1) hx hb d_Heap_newWord_34 (by decide) ?_
          refine lv_iadd hx hb d_Heap_newWord_35 ?_
          refine lv_topi (fun x_15 ex_15 => ?_)
          replace hm := ob1_at ex_15 hm
          refine lv_istore (lv' := [(4, .int x_15), (0, .ref ((u 1))), (1, .ref ((u 38))), (2, .int v2), (3, .int v3)]) hx hb d_Heap_newWord_36 hl (by decide) rfl (fun ls hl => ?_)
          refine lv_aload_n hx hb d_Heap_newWord_38 rfl (lv_at hl 2 rfl) ?_
          refine lv_iload_n hx hb d_Heap_newWord_39 rfl (lv_at hl 3 rfl) ?_
          refine lv_aload_n hx hb d_Heap_newWord_40 rfl (lv_at hl 1 rfl) ?_
          refine va_get (D := (dC, dI)) (ci := 1) (v := .ref ((o_11 0))) (C := R_Heap) (T := F_Heap) (N := 12) hx hb htt iw_Heap hown hK hP 1 xo_1 rfl 5 (Nat.le_of_ble_eq_true rfl) (htt _ lk_Heap_11) (fun _ h9 => h9) xg_1_5 d_Heap_newWord_41 ?_
          refine lv_iload hx hb d_Heap_newWord_44 (lv_at hl 0 rfl) ?_
          refine lv_iload_n hx hb d_Heap_newWord_46 rfl (lv_at hl 4 rfl) ?_
          obtain ⟨h_16a, h_16b, h_16c, h_16d, h_16e, hm⟩ := cy_some hm
          refine va_copyi hx hb (by rw [hml]; exact hl.1.symm) hown (htt _ lk_Heap_106) (htt _ na_arraycopy) (htt _ st_arraycopy) (htt _ ini_System) hK hP hD hS 40 12 0 0 (ty := .int) twA_28 twA_0 rfl rfl rfl h_16a h_16b h_16c h_16d h_16e (fun _ _ => rfl) (Nat.le_of_ble_eq_true rfl) (Nat.le_of_ble_eq_true rfl) d_Heap_newWord_47 (fun H locs hP hD hS => ?_)
          obtain ⟨a_17, ea_17⟩ : ∃ y9 : Nat → Nat → Int32, y9 = updA a_6 0 (va_cpy (a_6 28) (a_6 0) v2.toNatClampNeg x_15.toNatClampNeg v3.toNatClampNeg) := ⟨_, rfl⟩
          replace hm := ob1_at ea_17 hm
          obtain ⟨hP, hD⟩ := xv_0 ea_17 hP hD
          refine lv_aload_n hx hb d_Heap_newWord_50 rfl (lv_at hl 1 rfl) ?_
          refine va_get (D := (dC, dI)) (ci := 1) (v := .ref ((o_11 0))) (C := R_Heap) (T := F_Heap) (N := 12) hx hb htt iw_Heap hown hK hP 1 xo_1 rfl 5 (Nat.le_of_ble_eq_true rfl) (htt _ lk_Heap_11) (fun _ h9 => h9) xg_1_5 d_Heap_newWord_51 ?_
          refine lv_iload hx hb d_Heap_newWord_54 (lv_at hl 0 rfl) ?_
          refine lv_iload_n hx hb d_Heap_newWord_56 rfl (lv_at hl 4 rfl) ?_
          refine lv_iadd hx hb d_Heap_newWord_57 ?_
          refine lv_iconst (v := 0) hx hb d_Heap_newWord_58 (by decide) ?_
          obtain ⟨h_18, hm⟩ := ck_some hm
          refine va_iast hx hb hK hP hD hS 12 0 twA_0 rfl h_18 d_Heap_newWord_59 (fun H locs hP hD hS => ?_)
          obtain ⟨a_19, ea_19⟩ : ∃ y9 : Nat → Nat → Int32, y9 = sv a_17 0 (x_15 + v3).toNatClampNeg 0 := ⟨_, rfl⟩
          replace hm := ob1_at ea_19 hm
          obtain ⟨hP, hD⟩ := xv_0 ea_19 hP hD
          refine lv_aload_n hx hb d_Heap_newWord_60 rfl (lv_at hl 1 rfl) ?_
          refine va_get (D := (dC, dI)) (ci := 1) (v := .ref ((o_11 0))) (C := R_Heap) (T := F_Heap) (N := 12) hx hb htt iw_Heap hown hK hP 1 xo_1 rfl 5 (Nat.le_of_ble_eq_true rfl) (htt _ lk_Heap_11) (fun _ h9 => h9) xg_1_5 d_Heap_newWord_61 ?_
          refine lv_aload_n hx hb d_Heap_newWord_64 rfl (lv_at hl 1 rfl) ?_
          refine va_get (D := (dC, dI)) (ci := 1) (v := .int (i_5 8)) (C := R_Heap) (T := F_Heap) (N := 12) hx hb htt iw_Heap hown hK hP 1 xo_1 rfl 7 (Nat.le_of_ble_eq_true rfl) (htt _ lk_Heap_18) (fun _ h9 => h9) xg_1_7 d_Heap_newWord_65 ?_
          refine lv_sipush (v := 128) hx hb d_Heap_newWord_68 (by decide) ?_
          refine lv_aload_n hx hb d_Heap_newWord_71 rfl (lv_at hl 1 rfl) ?_
          refine va_get (D := (dC, dI)) (ci := 1) (v := .ref ((u 2))) (C := R_Heap) (T := F_Heap) (N := 12) hx hb htt iw_Heap hown hK hP 1 xo_1 rfl 0 (Nat.le_of_ble_eq_true rfl) (htt _ lk_Heap_31) (fun _ h9 => h9) xg_1_0 d_Heap_newWord_72 ?_
          refine lv_aload_n hx hb d_Heap_newWord_75 rfl (lv_at hl 1 rfl) ?_
          refine va_get (D := (dC, dI)) (ci := 1) (v := .ref ((o_11 0))) (C := R_Heap) (T := F_Heap) (N := 12) hx hb htt iw_Heap hown hK hP 1 xo_1 rfl 5 (Nat.le_of_ble_eq_true rfl) (htt _ lk_Heap_11) (fun _ h9 => h9) xg_1_5 d_Heap_newWord_76 ?_
          refine lv_iload hx hb d_Heap_newWord_79 (lv_at hl 0 rfl) ?_
          obtain ⟨r_21, h_20, hm⟩ := ob0_some hm
          have hFc := x_free0 hS hA
          refine xg_calli (va_runV (As := [.ref ((o_11 0)), .int x_15]) (rest := [.int 128, .int (i_5 8), .ref ((o_11 0))]) ⟨hx, hb, hml, hown, hts⟩ (x_Lexicon_meaning_a0 l dC dI cI adK adV adA u o_11 g_7 H.size n h_20) (cwV 2 hts (tw_GV tw_cons cw_Lexicon_meaning lk_Heap_112 in_Lexicon_meaning sel_Lexicon_meaning ini_Lexicon) rfl rfl rfl ⟨rfl, hd_Lexicon_meaning⟩ ⟨Nat.le_of_ble_eq_true rfl, Nat.le_of_ble_eq_true rfl⟩) (xpVr hK hP hS hE hFc xo_2 rfl) rfl rfl hl.1 rfl (lv_room (Nat.le_of_ble_eq_true rfl)) d_Heap_newWord_81 ⟨show kc_12 + 0 ≤ mc by omega, show ks_13 + 0 ≤ ms by omega⟩) hS (fun q _ h => hFc q h) hFc (fun kc_22 ks_23 r9 u9 t9 H locs ekc eks ht hvm e9 hB hz1 hk1 hS => ?_)
          replace hkc : kc_22 + k_10.1 = mc := by omega
          replace hks : ks_23 + k_10.2 = ms := by omega
          clear ekc eks
          have e9 : r_21 = r9 := e9
          subst e9
          replace hP := x_keep hP hk1
          clear hFc hk1 hz1 hvm hB ht
          refine lv_iadd hx hb d_Heap_newWord_84 ?_
          obtain ⟨h_24, hm⟩ := ck_some hm
          refine va_iast hx hb hK hP hD hS 12 0 twA_0 rfl h_24 d_Heap_newWord_85 (fun H locs hP hD hS => ?_)
          obtain ⟨a_25, ea_25⟩ : ∃ y9 : Nat → Nat → Int32, y9 = sv a_19 0 (i_5 8).toNatClampNeg (128 + r_21) := ⟨_, rfl⟩
          replace hm := ob1_at ea_25 hm
          obtain ⟨hP, hD⟩ := xv_0 ea_25 hP hD
          refine lv_aload_n hx hb d_Heap_newWord_86 rfl (lv_at hl 1 rfl) ?_
          refine lv_iload hx hb d_Heap_newWord_87 (lv_at hl 0 rfl) ?_
          refine lv_iload_n hx hb d_Heap_newWord_89 rfl (lv_at hl 4 rfl) ?_
          refine lv_iadd hx hb d_Heap_newWord_90 ?_
          refine lv_iconst (v := 1) hx hb d_Heap_newWord_91 (by decide) ?_
          refine lv_iadd hx hb d_Heap_newWord_92 ?_
          refine lv_topi (fun x_26 ex_26 => ?_)
          replace hm := ob1_at ex_26 hm
          refine va_put (D := (dC, dI)) (ci := 1) (v := .int x_26) (ty := .int) (C := R_Heap) (T := F_Heap) (N := 12) hx hb htt iw_Heap t_Heap t_Heap_ok n_Heap hown hK hP hD hS 1 xo_1 rfl 7 (Nat.le_of_ble_eq_true rfl) (htt _ lk_Heap_18) (fun _ h9 => h9) rfl (by decide +kernel) rfl rfl xl_1_7 d_Heap_newWord_93 (fun H locs hP hD hS => ?_)
          obtain ⟨i_27, ei_27⟩ : ∃ y9 : Nat → Int32, y9 = upd i_5 8 x_26 := ⟨_, rfl⟩
          replace hm := ob1_at ei_27 hm
          obtain ⟨hP, hD⟩ := xw_8 ei_27 hP hD
          refine lv_iload hx hb d_Heap_newWord_96 (lv_at hl 0 rfl) ?_
          refine lv_iconst (v := 2) hx hb d_Heap_newWord_98 (by decide) ?_
          refine lv_ishl hx hb d_Heap_newWord_99 ?_
          refine lv_iconst (v := 3) hx hb d_Heap_newWord_100 (by decide) ?_
          refine lv_ior hx hb d_Heap_newWord_101 ?_
          obtain ⟨e1, e2, e4, e5, e6, e3⟩ := re5 hm
          obtain ⟨hP, hD⟩ := x_eqg e1 e2 e4 hP hD
          refine W.widen (k := mc) (n := ms) (show kc_22 ≤ mc by omega) (show ks_23 ≤ ms by omega) ?_
          exact W.iret hx hb hr (fun t9 ht hW => ⟨⟨_, o_11, rfl, e3.symm, by rw [ht]; exact hP, hD⟩, hS.F ht⟩) hS.2.2 d_Heap_newWord_102
        · replace hm := if_t c_14 hm
          refine lv_ldc (v := (-2147483648)) hx hb hown (htt _ lk_Heap_71) d_Heap_newWord_27 ?_
          obtain ⟨e1, e2, e4, e5, e6, e3⟩ := re5 hm
          obtain ⟨hP, hD⟩ := x_eqg e1 e2 e4 hP hD
          refine W.widen (k := mc) (n := ms) (show kc_12 ≤ mc by omega) (show ks_13 ≤ ms by omega) ?_
          exact W.iret hx hb hr (fun t9 ht hW => ⟨⟨_, o_11, rfl, e3.symm, by rw [ht]; exact hP, hD⟩, hS.F ht⟩) hS.2.2 d_Heap_newWord_29

def m_Deeds_joinLetters_b148 (n : Nat) (i : Nat → Int32) (a : Nat → Nat → Int32) (g : Nat → Nat) (v3 : Int32) (v4 : Int32) : Option ((Nat → Int32) × (Nat → Nat → Int32) × (Nat → Nat) × (Nat × Nat) × Int32) := if v4 = ((-2147483648 : Int32)) then some (i, a, g, (0, 0), (-2147483640)) else ob1 ((i 38) + v3 : Int32) (fun x_2 => ob1 (upd i 38 x_2 : Nat → Int32) (fun i_3 => some (i_3, a, g, (0, 0), v4)))
set_option maxHeartbeats 4000000 in
set_option maxRecDepth 100000 in
theorem lb_Deeds_joinLetters_148 (l : Launch) (dC : Nat → ClassId) (dI : Nat → Nat → Nat) (cI : ClassId) (adK adV adA u : Nat → Nat) (n : Nat) {p : Program} {e : Env} {s : State} {m : MethodId} {args : Array Value} {below : List Frame} {meth : Method} {c : Code} {A : Nat → Prop} (hx : p.tables.exec = Jvm.exec) (hb : c.code = b_Deeds_joinLetters) (hml : c.maxLocals = 6) (hown : s.vm.findClass R_Deeds = some m.cls) (hts : ∀ w ∈ w_Deeds_joinLetters, w.before args s = true) (hK : va_K (dC, dI) classes [(cI, .int)] s) (hE : tw_E adK adV adA A s s.heap) (hA : ∀ q : Nat, s.heap.size ≤ q → A q) (hr : meth.sig.returnType = (some .int)) (hlocks : meth.locks = false) {mc ms : Nat} {i2 : Nat → Int32} {a2 : Nat → Nat → Int32} {g2 : Nat → Nat} {r2 : Int32} (i : Nat → Int32) (a : Nat → Nat → Int32) (g : Nat → Nat) (v3 : Int32) (v4 : Int32) (k2 : Nat × Nat) (hm : m_Deeds_joinLetters_b148 n i a g v3 v4 = some (i2, a2, g2, k2, r2)) : ∀ (o : Nat → Nat) (kc ks : Nat), kc + k2.1 = mc → ks + k2.2 = ms → ∀ (H : Heap) (locs : List Loc) (ls : Array Slot), va_P (dC, dI) classes (TW cI u o i a g) H → va_D A (TW cI u o i a g) → va_S A s.heap H locs → lv_has ls 6 [(0, .ref ((u 10))), (3, .int v3), (4, .int v4)] → W p l e ({ frames := 4, cells := mc, slots := ms, locals := 108 } : Room) s m args below meth c H locs kc ks (MQ below (va_Qi (xRg r2) (xBg dC dI cI u g2 i2 a2 A) A) args s mc ms A) (F0 m 148 ls []) := by
  have htt : ∀ w ∈ tw_T, w.before _ s = true := fun w h => hts w (List.mem_cons_of_mem _ h)
  intro o kc ks hkc hks H locs ls hP hD hS hl
  rw [m_Deeds_joinLetters_b148] at hm
  refine lv_iload hx hb d_Deeds_joinLetters_148 (lv_at hl 2 rfl) ?_
  refine lv_ldc (v := (-2147483648)) hx hb hown (htt _ lk_Deeds_206) d_Deeds_joinLetters_150 ?_
  refine lv_icmp_ne (tgt := 158) hx hb d_Deeds_joinLetters_152 (by decide) (fun c_1 => ?_) (fun c_1 => ?_)
  · replace hm := if_f c_1 hm
    refine lv_aload_n hx hb d_Deeds_joinLetters_158 rfl (lv_at hl 0 rfl) ?_
    refine va_get (D := (dC, dI)) (ci := 10) (v := .ref ((u 8))) (C := R_Deeds) (T := F_Deeds) (N := 8) hx hb htt iw_Deeds hown hK hP 10 xo_10 rfl 1 (Nat.le_of_ble_eq_true rfl) (htt _ lk_Deeds_18) (fun _ h9 => h9) xg_10_1 d_Deeds_joinLetters_159 ?_
    refine lv_dup hx hb d_Deeds_joinLetters_162 rfl ?_
    refine va_get (D := (dC, dI)) (ci := 8) (v := .int (i 38)) (C := R_Line) (T := F_Line) (N := 18) hx hb htt iw_Line hown hK hP 8 xo_8 rfl 4 (Nat.le_of_ble_eq_true rfl) (htt _ lk_Deeds_199) (fun _ h9 => h9) xg_8_4 d_Deeds_joinLetters_163 ?_
    refine lv_iload_n hx hb d_Deeds_joinLetters_166 rfl (lv_at hl 1 rfl) ?_
    refine lv_iadd hx hb d_Deeds_joinLetters_167 ?_
    refine lv_topi (fun x_2 ex_2 => ?_)
    replace hm := ob1_at ex_2 hm
    refine va_put (D := (dC, dI)) (ci := 8) (v := .int x_2) (ty := .int) (C := R_Line) (T := F_Line) (N := 18) hx hb htt iw_Line t_Line t_Line_ok n_Line hown hK hP hD hS 8 xo_8 rfl 4 (Nat.le_of_ble_eq_true rfl) (htt _ lk_Deeds_199) (fun _ h9 => h9) rfl (by decide +kernel) rfl rfl xl_8_4 d_Deeds_joinLetters_168 (fun H locs hP hD hS => ?_)
    obtain ⟨i_3, ei_3⟩ : ∃ y9 : Nat → Int32, y9 = upd i 38 x_2 := ⟨_, rfl⟩
    replace hm := ob1_at ei_3 hm
    obtain ⟨hP, hD⟩ := xw_38 ei_3 hP hD
    refine lv_iload hx hb d_Deeds_joinLetters_171 (lv_at hl 2 rfl) ?_
    obtain ⟨e1, e2, e4, e5, e6, e3⟩ := re5 hm
    obtain ⟨hP, hD⟩ := x_eqg e1 e2 e4 hP hD
    refine W.widen (k := mc) (n := ms) (show kc ≤ mc by omega) (show ks ≤ ms by omega) ?_
    exact W.iret hx hb hr (fun t9 ht hW => ⟨⟨_, o, rfl, e3.symm, by rw [ht]; exact hP, hD⟩, hS.F ht⟩) hS.2.2 d_Deeds_joinLetters_173
  · replace hm := if_t c_1 hm
    refine lv_ldc (v := (-2147483640)) hx hb hown (htt _ lk_Deeds_202) d_Deeds_joinLetters_155 ?_
    obtain ⟨e1, e2, e4, e5, e6, e3⟩ := re5 hm
    obtain ⟨hP, hD⟩ := x_eqg e1 e2 e4 hP hD
    refine W.widen (k := mc) (n := ms) (show kc ≤ mc by omega) (show ks ≤ ms by omega) ?_
    exact W.iret hx hb hr (fun t9 ht hW => ⟨⟨_, o, rfl, e3.symm, by rw [ht]; exact hP, hD⟩, hS.F ht⟩) hS.2.2 d_Deeds_joinLetters_157
def m_Deeds_joinLetters_b101 (n : Nat) (i : Nat → Int32) (a : Nat → Nat → Int32) (g : Nat → Nat) (v3 : Int32) (v4 : Int32) (v5 : Int32) : Option ((Nat → Int32) × (Nat → Nat → Int32) × (Nat → Nat) × (Nat × Nat) × Int32) := if ((30 : Int32)) < v3 then some (i, a, g, (0, 0), (-2147483640)) else if (((i 38) + v3)) ≤ ((30000 : Int32)) then if v5 = ((0 : Int32)) then obG (m_Heap_newWord_a28 n g i a (0 : Int32) v3) (fun i_5 a_6 g_7 r_9 => m_Deeds_joinLetters_b148 n i_5 a_6 g_7 v3 r_9) else m_Deeds_joinLetters_b148 n i a g v3 v4 else some (i, a, g, (0, 0), (-2147483640))
set_option maxHeartbeats 4000000 in
set_option maxRecDepth 100000 in
theorem lb_Deeds_joinLetters_101 (l : Launch) (dC : Nat → ClassId) (dI : Nat → Nat → Nat) (cI : ClassId) (adK adV adA u : Nat → Nat) (n : Nat) {p : Program} {e : Env} {s : State} {m : MethodId} {args : Array Value} {below : List Frame} {meth : Method} {c : Code} {A : Nat → Prop} (hx : p.tables.exec = Jvm.exec) (hb : c.code = b_Deeds_joinLetters) (hml : c.maxLocals = 6) (hown : s.vm.findClass R_Deeds = some m.cls) (hts : ∀ w ∈ w_Deeds_joinLetters, w.before args s = true) (hK : va_K (dC, dI) classes [(cI, .int)] s) (hE : tw_E adK adV adA A s s.heap) (hA : ∀ q : Nat, s.heap.size ≤ q → A q) (hr : meth.sig.returnType = (some .int)) (hlocks : meth.locks = false) {mc ms : Nat} {i2 : Nat → Int32} {a2 : Nat → Nat → Int32} {g2 : Nat → Nat} {r2 : Int32} (i : Nat → Int32) (a : Nat → Nat → Int32) (g : Nat → Nat) (v3 : Int32) (v4 : Int32) (v5 : Int32) (k2 : Nat × Nat) (hm : m_Deeds_joinLetters_b101 n i a g v3 v4 v5 = some (i2, a2, g2, k2, r2)) : ∀ (o : Nat → Nat) (kc ks : Nat), kc + k2.1 = mc → ks + k2.2 = ms → ∀ (H : Heap) (locs : List Loc) (ls : Array Slot), va_P (dC, dI) classes (TW cI u o i a g) H → va_D A (TW cI u o i a g) → va_S A s.heap H locs → lv_has ls 6 [(0, .ref ((u 10))), (3, .int v3), (4, .int v4), (5, .int v5)] → W p l e ({ frames := 4, cells := mc, slots := ms, locals := 108 } : Room) s m args below meth c H locs kc ks (MQ below (va_Qi (xRg r2) (xBg dC dI cI u g2 i2 a2 A) A) args s mc ms A) (F0 m 101 ls []) := by
  have htt : ∀ w ∈ tw_T, w.before _ s = true := fun w h => hts w (List.mem_cons_of_mem _ h)
  intro o kc ks hkc hks H locs ls hP hD hS hl
  rw [m_Deeds_joinLetters_b101] at hm
  refine lv_iload_n hx hb d_Deeds_joinLetters_101 rfl (lv_at hl 1 rfl) ?_
  refine lv_bipush (v := 30) hx hb d_Deeds_joinLetters_102 (by decide) ?_
  refine lv_icmp_gt (tgt := 122) hx hb d_Deeds_joinLetters_104 (by decide) (fun c_1 => ?_) (fun c_1 => ?_)
  · replace hm := if_t c_1 hm
    refine lv_ldc (v := (-2147483640)) hx hb hown (htt _ lk_Deeds_202) d_Deeds_joinLetters_122 ?_
    obtain ⟨e1, e2, e4, e5, e6, e3⟩ := re5 hm
    obtain ⟨hP, hD⟩ := x_eqg e1 e2 e4 hP hD
    refine W.widen (k := mc) (n := ms) (show kc ≤ mc by omega) (show ks ≤ ms by omega) ?_
    exact W.iret hx hb hr (fun t9 ht hW => ⟨⟨_, o, rfl, e3.symm, by rw [ht]; exact hP, hD⟩, hS.F ht⟩) hS.2.2 d_Deeds_joinLetters_124
  · replace hm := if_f c_1 hm
    refine lv_aload_n hx hb d_Deeds_joinLetters_107 rfl (lv_at hl 0 rfl) ?_
    refine va_get (D := (dC, dI)) (ci := 10) (v := .ref ((u 8))) (C := R_Deeds) (T := F_Deeds) (N := 8) hx hb htt iw_Deeds hown hK hP 10 xo_10 rfl 1 (Nat.le_of_ble_eq_true rfl) (htt _ lk_Deeds_18) (fun _ h9 => h9) xg_10_1 d_Deeds_joinLetters_108 ?_
    refine va_get (D := (dC, dI)) (ci := 8) (v := .int (i 38)) (C := R_Line) (T := F_Line) (N := 18) hx hb htt iw_Line hown hK hP 8 xo_8 rfl 4 (Nat.le_of_ble_eq_true rfl) (htt _ lk_Deeds_199) (fun _ h9 => h9) xg_8_4 d_Deeds_joinLetters_111 ?_
    refine lv_iload_n hx hb d_Deeds_joinLetters_114 rfl (lv_at hl 1 rfl) ?_
    refine lv_iadd hx hb d_Deeds_joinLetters_115 ?_
    refine lv_sipush (v := 30000) hx hb d_Deeds_joinLetters_116 (by decide) ?_
    refine lv_icmp_le (tgt := 125) hx hb d_Deeds_joinLetters_119 (by decide) (fun c_2 => ?_) (fun c_2 => ?_)
    · replace hm := if_t c_2 hm
      refine lv_iload hx hb d_Deeds_joinLetters_125 (lv_at hl 3 rfl) ?_
      refine lv_if_ne (tgt := 148) hx hb d_Deeds_joinLetters_127 (by decide) (fun c_3 => ?_) (fun c_3 => ?_)
      · replace hm := if_f c_3 hm
        exact lb_Deeds_joinLetters_148 l dC dI cI adK adV adA u n hx hb hml hown hts hK hE hA hr hlocks _ _ _ _ _ _ hm o kc ks hkc hks _ _ _ hP hD hS (lv_sub hl [0, 1, 2] rfl)
      · replace hm := if_t c_3 hm
        refine lv_aload_n hx hb d_Deeds_joinLetters_130 rfl (lv_at hl 0 rfl) ?_
        refine va_get (D := (dC, dI)) (ci := 10) (v := .ref ((u 1))) (C := R_Deeds) (T := F_Deeds) (N := 8) hx hb htt iw_Deeds hown hK hP 10 xo_10 rfl 0 (Nat.le_of_ble_eq_true rfl) (htt _ lk_Deeds_15) (fun _ h9 => h9) xg_10_0 d_Deeds_joinLetters_131 ?_
        refine lv_aload_n hx hb d_Deeds_joinLetters_134 rfl (lv_at hl 0 rfl) ?_
        refine va_get (D := (dC, dI)) (ci := 10) (v := .ref ((u 6))) (C := R_Deeds) (T := F_Deeds) (N := 8) hx hb htt iw_Deeds hown hK hP 10 xo_10 rfl 6 (Nat.le_of_ble_eq_true rfl) (htt _ lk_Deeds_38) (fun _ h9 => h9) xg_10_6 d_Deeds_joinLetters_135 ?_
        refine va_get (D := (dC, dI)) (ci := 6) (v := .ref ((u 38))) (C := R_Output) (T := F_Output) (N := 11) hx hb htt iw_Output hown hK hP 6 xo_6 rfl 7 (Nat.le_of_ble_eq_true rfl) (htt _ lk_Deeds_229) (fun _ h9 => h9) xg_6_7 d_Deeds_joinLetters_138 ?_
        refine lv_iconst (v := 0) hx hb d_Deeds_joinLetters_141 (by decide) ?_
        refine lv_iload_n hx hb d_Deeds_joinLetters_142 rfl (lv_at hl 1 rfl) ?_
        obtain ⟨i_5, a_6, g_7, k_8, r_9, k_10, h_4, hm, e7, e8⟩ := obG_some hm
        have hFc := x_free hD hS hA
        refine xg_calli (va_runV (As := [.ref ((u 38)), .int 0, .int v3]) (rest := []) ⟨hx, hb, hml, hown, hts⟩ (x_Heap_newWord_a28 l dC dI cI adK adV adA u o g H.size n h_4) (cwV 3 hts (tw_GV tw_cons cw_Heap_newWord lk_Deeds_237 in_Heap_newWord sel_Heap_newWord ini_Heap) rfl rfl rfl ⟨rfl, hd_Heap_newWord⟩ ⟨Nat.le_of_ble_eq_true rfl, Nat.le_of_ble_eq_true rfl⟩) (xpV hK hP hD hS hE hFc xo_1 rfl) rfl rfl hl.1 rfl (lv_room (Nat.le_of_ble_eq_true rfl)) d_Deeds_joinLetters_143 ⟨show kc + k_8.1 ≤ mc by omega, show ks + k_8.2 ≤ ms by omega⟩) hS (fun q _ h => hFc q h) hFc (fun kc_12 ks_13 r9 o_11 t9 H locs ekc eks ht hvm e9 hB hz1 hk1 hS => ?_)
        replace hkc : kc_12 + k_10.1 = mc := by omega
        replace hks : ks_13 + k_10.2 = ms := by omega
        clear e7 e8
        clear ekc eks
        have e9 : r_9 = r9 := e9
        subst e9
        obtain ⟨hP, hD⟩ := x_aftg hB ht hFc
        clear hFc hk1 hz1 hvm hB ht
        refine lv_istore (lv' := [(4, .int r_9), (0, .ref ((u 10))), (3, .int v3), (5, .int v5)]) hx hb d_Deeds_joinLetters_146 hl (by decide) rfl (fun ls hl => ?_)
        exact lb_Deeds_joinLetters_148 l dC dI cI adK adV adA u n hx hb hml hown hts hK hE hA hr hlocks _ _ _ _ _ _ hm o_11 kc_12 ks_13 hkc hks _ _ _ hP hD hS (lv_sub hl [1, 2, 0] rfl)
    · replace hm := if_f c_2 hm
      refine lv_ldc (v := (-2147483640)) hx hb hown (htt _ lk_Deeds_202) d_Deeds_joinLetters_122 ?_
      obtain ⟨e1, e2, e4, e5, e6, e3⟩ := re5 hm
      obtain ⟨hP, hD⟩ := x_eqg e1 e2 e4 hP hD
      refine W.widen (k := mc) (n := ms) (show kc ≤ mc by omega) (show ks ≤ ms by omega) ?_
      exact W.iret hx hb hr (fun t9 ht hW => ⟨⟨_, o, rfl, e3.symm, by rw [ht]; exact hP, hD⟩, hS.F ht⟩) hS.2.2 d_Deeds_joinLetters_124
def m_Deeds_joinLetters_b69 (n : Nat) (i : Nat → Int32) (a : Nat → Nat → Int32) (g : Nat → Nat) (v3 : Int32) (v4 : Int32) (s0 : Int32) : Option ((Nat → Int32) × (Nat → Nat → Int32) × (Nat → Nat) × (Nat × Nat) × Int32) := if s0 = ((0 : Int32)) then m_Deeds_joinLetters_b101 n i a g v3 v4 s0 else ob (m_Output_begin n g i a) (fun i_3 a_4 r_5 => ob (m_Output_addShown n g i_3 a_4 v4 (0 : Int32)) (fun i_9 a_10 r_11 => ob1 (i_9 23 : Int32) (fun x_14 => m_Deeds_joinLetters_b101 n i_9 a_10 g x_14 v4 s0)))
set_option maxHeartbeats 4000000 in
set_option maxRecDepth 100000 in
theorem lb_Deeds_joinLetters_69 (l : Launch) (dC : Nat → ClassId) (dI : Nat → Nat → Nat) (cI : ClassId) (adK adV adA u : Nat → Nat) (n : Nat) {p : Program} {e : Env} {s : State} {m : MethodId} {args : Array Value} {below : List Frame} {meth : Method} {c : Code} {A : Nat → Prop} (hx : p.tables.exec = Jvm.exec) (hb : c.code = b_Deeds_joinLetters) (hml : c.maxLocals = 6) (hown : s.vm.findClass R_Deeds = some m.cls) (hts : ∀ w ∈ w_Deeds_joinLetters, w.before args s = true) (hK : va_K (dC, dI) classes [(cI, .int)] s) (hE : tw_E adK adV adA A s s.heap) (hA : ∀ q : Nat, s.heap.size ≤ q → A q) (hr : meth.sig.returnType = (some .int)) (hlocks : meth.locks = false) {mc ms : Nat} {i2 : Nat → Int32} {a2 : Nat → Nat → Int32} {g2 : Nat → Nat} {r2 : Int32} (i : Nat → Int32) (a : Nat → Nat → Int32) (g : Nat → Nat) (v3 : Int32) (v4 : Int32) (s0 : Int32) (k2 : Nat × Nat) (hm : m_Deeds_joinLetters_b69 n i a g v3 v4 s0 = some (i2, a2, g2, k2, r2)) : ∀ (o : Nat → Nat) (kc ks : Nat), kc + k2.1 = mc → ks + k2.2 = ms → ∀ (H : Heap) (locs : List Loc) (ls : Array Slot), va_P (dC, dI) classes (TW cI u o i a g) H → va_D A (TW cI u o i a g) → va_S A s.heap H locs → lv_has ls 6 [(0, .ref ((u 10))), (3, .int v3), (4, .int v4)] → W p l e ({ frames := 4, cells := mc, slots := ms, locals := 108 } : Room) s m args below meth c H locs kc ks (MQ below (va_Qi (xRg r2) (xBg dC dI cI u g2 i2 a2 A) A) args s mc ms A) (F0 m 69 ls [.int s0]) := by
  have htt : ∀ w ∈ tw_T, w.before _ s = true := fun w h => hts w (List.mem_cons_of_mem _ h)
  intro o kc ks hkc hks H locs ls hP hD hS hl
  rw [m_Deeds_joinLetters_b69] at hm
  refine lv_istore (lv' := [(5, .int s0), (0, .ref ((u 10))), (3, .int v3), (4, .int v4)]) hx hb d_Deeds_joinLetters_69 hl (by decide) rfl (fun ls hl => ?_)
  refine lv_iload hx hb d_Deeds_joinLetters_71 (lv_at hl 0 rfl) ?_
  refine lv_if_eq (tgt := 101) hx hb d_Deeds_joinLetters_73 (by decide) (fun c_1 => ?_) (fun c_1 => ?_)
  · replace hm := if_t c_1 hm
    exact lb_Deeds_joinLetters_101 l dC dI cI adK adV adA u n hx hb hml hown hts hK hE hA hr hlocks _ _ _ _ _ _ _ hm o kc ks hkc hks _ _ _ hP hD hS (lv_sub hl [1, 2, 3, 0] rfl)
  · replace hm := if_f c_1 hm
    refine lv_aload_n hx hb d_Deeds_joinLetters_76 rfl (lv_at hl 1 rfl) ?_
    refine va_get (D := (dC, dI)) (ci := 10) (v := .ref ((u 6))) (C := R_Deeds) (T := F_Deeds) (N := 8) hx hb htt iw_Deeds hown hK hP 10 xo_10 rfl 6 (Nat.le_of_ble_eq_true rfl) (htt _ lk_Deeds_38) (fun _ h9 => h9) xg_10_6 d_Deeds_joinLetters_77 ?_
    obtain ⟨i_3, a_4, r_5, h_2, hm⟩ := ob_some hm
    have hFc := x_free hD hS hA
    refine xg_callv (va_runV (As := []) (rest := []) ⟨hx, hb, hml, hown, hts⟩ (x_Output_begin l dC dI cI adK adV adA u o g H.size n h_2) (cwV 0 hts (tw_GV tw_cons cw_Output_begin lk_Deeds_217 in_Output_begin sel_Output_begin ini_Output) rfl rfl rfl ⟨rfl, hd_Output_begin⟩ ⟨Nat.le_of_ble_eq_true rfl, Nat.le_of_ble_eq_true rfl⟩) (xpV hK hP hD hS hE hFc xo_6 rfl) rfl rfl hl.1 rfl (lv_room (Nat.le_of_ble_eq_true rfl)) d_Deeds_joinLetters_80 ⟨show kc + 0 ≤ mc by omega, show ks + 0 ≤ ms by omega⟩) hS (fun q _ h => hFc q h) hFc (fun kc_6 ks_7 u9 t9 H locs ekc eks ht hvm e9 hB hz1 hk1 hS => ?_)
    replace hkc : kc_6 + k2.1 = mc := by omega
    replace hks : ks_7 + k2.2 = ms := by omega
    clear ekc eks
    obtain ⟨hP, hD⟩ := x_aft hB ht hFc
    clear hFc hk1 hz1 hvm hB ht
    refine lv_aload_n hx hb d_Deeds_joinLetters_83 rfl (lv_at hl 1 rfl) ?_
    refine va_get (D := (dC, dI)) (ci := 10) (v := .ref ((u 6))) (C := R_Deeds) (T := F_Deeds) (N := 8) hx hb htt iw_Deeds hown hK hP 10 xo_10 rfl 6 (Nat.le_of_ble_eq_true rfl) (htt _ lk_Deeds_38) (fun _ h9 => h9) xg_10_6 d_Deeds_joinLetters_84 ?_
    refine lv_iload hx hb d_Deeds_joinLetters_87 (lv_at hl 3 rfl) ?_
    refine lv_iconst (v := 0) hx hb d_Deeds_joinLetters_89 (by decide) ?_
    obtain ⟨i_9, a_10, r_11, h_8, hm⟩ := ob_some hm
    have hFc := x_free hD hS hA
    refine xg_callv (va_runV (As := [.int v4, .int 0]) (rest := []) ⟨hx, hb, hml, hown, hts⟩ (x_Output_addShown l dC dI cI adK adV adA u o g H.size n h_8) (cwV 2 hts (tw_GV tw_cons cw_Output_addShown lk_Deeds_222 in_Output_addShown sel_Output_addShown ini_Output) rfl rfl rfl ⟨rfl, hd_Output_addShown⟩ ⟨Nat.le_of_ble_eq_true rfl, Nat.le_of_ble_eq_true rfl⟩) (xpV hK hP hD hS hE hFc xo_6 rfl) rfl rfl hl.1 rfl (lv_room (Nat.le_of_ble_eq_true rfl)) d_Deeds_joinLetters_90 ⟨show kc_6 + 0 ≤ mc by omega, show ks_7 + 0 ≤ ms by omega⟩) hS (fun q _ h => hFc q h) hFc (fun kc_12 ks_13 u9 t9 H locs ekc eks ht hvm e9 hB hz1 hk1 hS => ?_)
    replace hkc : kc_12 + k2.1 = mc := by omega
    replace hks : ks_13 + k2.2 = ms := by omega
    clear ekc eks
    obtain ⟨hP, hD⟩ := x_aft hB ht hFc
    clear hFc hk1 hz1 hvm hB ht
    refine lv_aload_n hx hb d_Deeds_joinLetters_93 rfl (lv_at hl 1 rfl) ?_
    refine va_get (D := (dC, dI)) (ci := 10) (v := .ref ((u 6))) (C := R_Deeds) (T := F_Deeds) (N := 8) hx hb htt iw_Deeds hown hK hP 10 xo_10 rfl 6 (Nat.le_of_ble_eq_true rfl) (htt _ lk_Deeds_38) (fun _ h9 => h9) xg_10_6 d_Deeds_joinLetters_94 ?_
    refine va_get (D := (dC, dI)) (ci := 6) (v := .int (i_9 23)) (C := R_Output) (T := F_Output) (N := 11) hx hb htt iw_Output hown hK hP 6 xo_6 rfl 8 (Nat.le_of_ble_eq_true rfl) (htt _ lk_Deeds_226) (fun _ h9 => h9) xg_6_8 d_Deeds_joinLetters_97 ?_
    refine lv_topi (fun x_14 ex_14 => ?_)
    replace hm := ob1_at ex_14 hm
    refine lv_istore_n (lv' := [(3, .int x_14), (5, .int s0), (0, .ref ((u 10))), (4, .int v4)]) hx hb d_Deeds_joinLetters_100 rfl hl (by decide) rfl (fun ls hl => ?_)
    exact lb_Deeds_joinLetters_101 l dC dI cI adK adV adA u n hx hb hml hown hts hK hE hA hr hlocks _ _ _ _ _ _ _ hm o kc_12 ks_13 hkc hks _ _ _ hP hD hS (lv_sub hl [2, 0, 3, 1] rfl)
def m_Deeds_joinLetters (n : Nat) (g : Nat → Nat) (i : Nat → Int32) (a : Nat → Nat → Int32) (v1 : Int32) (v2 : Int32) : Option ((Nat → Int32) × (Nat → Nat → Int32) × (Nat → Nat) × (Nat × Nat) × Int32) := ob (m_Output_begin n g i a) (fun i_2 a_3 r_4 => ob (m_Output_addShown n g i_2 a_3 v1 (0 : Int32)) (fun i_8 a_9 r_10 => ob (m_Output_addShown n g i_8 a_9 v2 (0 : Int32)) (fun i_14 a_15 r_16 => ob1 (i_14 23 : Int32) (fun x_19 => ob0 (m_Heap_numberIn_a28 n g i_14 a_15 (0 : Int32) x_19) (fun r_21 => if r_21 = ((-2147483639 : Int32)) then some (i_14, a_15, g, (0, 0), r_21) else if r_21 = ((-2147483648 : Int32)) then m_Deeds_joinLetters_b69 n i_14 a_15 g x_19 r_21 (0 : Int32) else m_Deeds_joinLetters_b69 n i_14 a_15 g x_19 r_21 (1 : Int32))))))
set_option maxHeartbeats 4000000 in
set_option maxRecDepth 100000 in
theorem x_Deeds_joinLetters (l : Launch) (dC : Nat → ClassId) (dI : Nat → Nat → Nat) (cI : ClassId) (adK adV adA u o g : Nat → Nat) (sz : Nat) (n : Nat) {i : Nat → Int32} {a : Nat → Nat → Int32} {v1 : Int32} {v2 : Int32} {i2 : Nat → Int32} {a2 : Nat → Nat → Int32} {g2 : Nat → Nat} {k2 : Nat × Nat} {r2 : Int32} (hm : m_Deeds_joinLetters n g i a v1 v2 = some (i2, a2, g2, k2, r2)) : Met l y_Deeds_joinLetters w_Deeds_joinLetters ({ frames := 4, cells := k2.1, slots := k2.2, locals := 108 } : Room) (va_Pc [.ref ((u 10)), .int v1, .int v2] (xE dC dI cI adK adV adA u o g i a sz)) (va_Qi (xRg r2) (xBg dC dI cI u g2 i2 a2 (va_A (TW cI u o i a g) sz)) (va_A (TW cI u o i a g) sz)) k2.1 k2.2 ((va_A (TW cI u o i a g) sz)) := by
  refine Met.ofW (cc := b_Deeds_joinLetters) (maxL := 6) (ret := (some .int)) (by decide) rfl ?_
  intro p e s m args below meth c s₁ B hml hv
  obtain ⟨rfl, hsz, hP, hK, hE, hD0⟩ := hv
  have hx := B.exec
  have hb := B.bytes
  have hr := B.returns
  have hts := atoms_spec (ws := w_Deeds_joinLetters) B.pre
  have htt : ∀ w ∈ tw_T, w.before _ s = true := fun w h => hts w (List.mem_cons_of_mem _ h)
  have hown : s.vm.findClass R_Deeds = some m.cls := findClass_of_methodNamed B.named
  have hlocks := B.notSynchronized
  subst hsz
  have hD := hD0.self (sz := s.heap.size)
  generalize hAe : (va_A (TW cI u o i a g) s.heap.size) = A at hD hE ⊢
  have hA : ∀ q : Nat, s.heap.size ≤ q → A q := fun q h => by rw [← hAe]; exact Or.inr h
  have hS : va_S A s.heap s.heap [] := va_S.rf
  obtain ⟨mc, ms, emc, ems⟩ : ∃ mc ms : Nat, k2.1 = mc ∧ k2.2 = ms := ⟨_, _, rfl, rfl⟩
  have hkc : 0 + k2.1 = mc := by rw [Nat.zero_add]; exact emc
  have hks : 0 + k2.2 = ms := by rw [Nat.zero_add]; exact ems
  rw [emc, ems]
  clear emc ems
  have hl := lv_entry ([.ref ((u 10)), .int v1, .int v2]) (n := 6) (Nat.le_of_ble_eq_true rfl)
  rw [lg_entry_eq]
  generalize (lg_sl ([.ref ((u 10)), .int v1, .int v2]) ++ List.replicate (6 - (lg_sl ([.ref ((u 10)), .int v1, .int v2])).length) Slot.unset).toArray = ls at hl ⊢
  have hl : lv_has ls 6 [(0, .ref ((u 10))), (1, .int v1), (2, .int v2)] := hl
  rw [m_Deeds_joinLetters] at hm
  refine lv_aload_n hx hb d_Deeds_joinLetters_0 rfl (lv_at hl 0 rfl) ?_
  refine va_get (D := (dC, dI)) (ci := 10) (v := .ref ((u 6))) (C := R_Deeds) (T := F_Deeds) (N := 8) hx hb htt iw_Deeds hown hK hP 10 xo_10 rfl 6 (Nat.le_of_ble_eq_true rfl) (htt _ lk_Deeds_38) (fun _ h9 => h9) xg_10_6 d_Deeds_joinLetters_1 ?_
  obtain ⟨i_2, a_3, r_4, h_1, hm⟩ := ob_some hm
  have hFc := x_free hD hS hA
  refine xg_callv (va_runV (As := []) (rest := []) ⟨hx, hb, hml, hown, hts⟩ (x_Output_begin l dC dI cI adK adV adA u o g s.heap.size n h_1) (cwV 0 hts (tw_GV tw_cons cw_Output_begin lk_Deeds_217 in_Output_begin sel_Output_begin ini_Output) rfl rfl rfl ⟨rfl, hd_Output_begin⟩ ⟨Nat.le_of_ble_eq_true rfl, Nat.le_of_ble_eq_true rfl⟩) (xpV hK hP hD hS hE hFc xo_6 rfl) rfl rfl hl.1 rfl (lv_room (Nat.le_of_ble_eq_true rfl)) d_Deeds_joinLetters_4 ⟨show 0 + 0 ≤ mc by omega, show 0 + 0 ≤ ms by omega⟩) hS (fun q _ h => hFc q h) hFc (fun kc_5 ks_6 u9 t9 H locs ekc eks ht hvm e9 hB hz1 hk1 hS => ?_)
  replace hkc : kc_5 + k2.1 = mc := by omega
  replace hks : ks_6 + k2.2 = ms := by omega
  clear ekc eks
  obtain ⟨hP, hD⟩ := x_aft hB ht hFc
  clear hFc hk1 hz1 hvm hB ht
  refine lv_aload_n hx hb d_Deeds_joinLetters_7 rfl (lv_at hl 0 rfl) ?_
  refine va_get (D := (dC, dI)) (ci := 10) (v := .ref ((u 6))) (C := R_Deeds) (T := F_Deeds) (N := 8) hx hb htt iw_Deeds hown hK hP 10 xo_10 rfl 6 (Nat.le_of_ble_eq_true rfl) (htt _ lk_Deeds_38) (fun _ h9 => h9) xg_10_6 d_Deeds_joinLetters_8 ?_
  refine lv_iload_n hx hb d_Deeds_joinLetters_11 rfl (lv_at hl 1 rfl) ?_
  refine lv_iconst (v := 0) hx hb d_Deeds_joinLetters_12 (by decide) ?_
  obtain ⟨i_8, a_9, r_10, h_7, hm⟩ := ob_some hm
  have hFc := x_free hD hS hA
  refine xg_callv (va_runV (As := [.int v1, .int 0]) (rest := []) ⟨hx, hb, hml, hown, hts⟩ (x_Output_addShown l dC dI cI adK adV adA u o g H.size n h_7) (cwV 2 hts (tw_GV tw_cons cw_Output_addShown lk_Deeds_222 in_Output_addShown sel_Output_addShown ini_Output) rfl rfl rfl ⟨rfl, hd_Output_addShown⟩ ⟨Nat.le_of_ble_eq_true rfl, Nat.le_of_ble_eq_true rfl⟩) (xpV hK hP hD hS hE hFc xo_6 rfl) rfl rfl hl.1 rfl (lv_room (Nat.le_of_ble_eq_true rfl)) d_Deeds_joinLetters_13 ⟨show kc_5 + 0 ≤ mc by omega, show ks_6 + 0 ≤ ms by omega⟩) hS (fun q _ h => hFc q h) hFc (fun kc_11 ks_12 u9 t9 H locs ekc eks ht hvm e9 hB hz1 hk1 hS => ?_)
  replace hkc : kc_11 + k2.1 = mc := by omega
  replace hks : ks_12 + k2.2 = ms := by omega
  clear ekc eks
  obtain ⟨hP, hD⟩ := x_aft hB ht hFc
  clear hFc hk1 hz1 hvm hB ht
  refine lv_aload_n hx hb d_Deeds_joinLetters_16 rfl (lv_at hl 0 rfl) ?_
  refine va_get (D := (dC, dI)) (ci := 10) (v := .ref ((u 6))) (C := R_Deeds) (T := F_Deeds) (N := 8) hx hb htt iw_Deeds hown hK hP 10 xo_10 rfl 6 (Nat.le_of_ble_eq_true rfl) (htt _ lk_Deeds_38) (fun _ h9 => h9) xg_10_6 d_Deeds_joinLetters_17 ?_
  refine lv_iload_n hx hb d_Deeds_joinLetters_20 rfl (lv_at hl 2 rfl) ?_
  refine lv_iconst (v := 0) hx hb d_Deeds_joinLetters_21 (by decide) ?_
  obtain ⟨i_14, a_15, r_16, h_13, hm⟩ := ob_some hm
  have hFc := x_free hD hS hA
  refine xg_callv (va_runV (As := [.int v2, .int 0]) (rest := []) ⟨hx, hb, hml, hown, hts⟩ (x_Output_addShown l dC dI cI adK adV adA u o g H.size n h_13) (cwV 2 hts (tw_GV tw_cons cw_Output_addShown lk_Deeds_222 in_Output_addShown sel_Output_addShown ini_Output) rfl rfl rfl ⟨rfl, hd_Output_addShown⟩ ⟨Nat.le_of_ble_eq_true rfl, Nat.le_of_ble_eq_true rfl⟩) (xpV hK hP hD hS hE hFc xo_6 rfl) rfl rfl hl.1 rfl (lv_room (Nat.le_of_ble_eq_true rfl)) d_Deeds_joinLetters_22 ⟨show kc_11 + 0 ≤ mc by omega, show ks_12 + 0 ≤ ms by omega⟩) hS (fun q _ h => hFc q h) hFc (fun kc_17 ks_18 u9 t9 H locs ekc eks ht hvm e9 hB hz1 hk1 hS => ?_)
  replace hkc : kc_17 + k2.1 = mc := by omega
  replace hks : ks_18 + k2.2 = ms := by omega
  clear ekc eks
  obtain ⟨hP, hD⟩ := x_aft hB ht hFc
  clear hFc hk1 hz1 hvm hB ht
  refine lv_aload_n hx hb d_Deeds_joinLetters_25 rfl (lv_at hl 0 rfl) ?_
  refine va_get (D := (dC, dI)) (ci := 10) (v := .ref ((u 6))) (C := R_Deeds) (T := F_Deeds) (N := 8) hx hb htt iw_Deeds hown hK hP 10 xo_10 rfl 6 (Nat.le_of_ble_eq_true rfl) (htt _ lk_Deeds_38) (fun _ h9 => h9) xg_10_6 d_Deeds_joinLetters_26 ?_
  refine va_get (D := (dC, dI)) (ci := 6) (v := .int (i_14 23)) (C := R_Output) (T := F_Output) (N := 11) hx hb htt iw_Output hown hK hP 6 xo_6 rfl 8 (Nat.le_of_ble_eq_true rfl) (htt _ lk_Deeds_226) (fun _ h9 => h9) xg_6_8 d_Deeds_joinLetters_29 ?_
  refine lv_topi (fun x_19 ex_19 => ?_)
  replace hm := ob1_at ex_19 hm
  refine lv_istore_n (lv' := [(3, .int x_19), (0, .ref ((u 10))), (1, .int v1), (2, .int v2)]) hx hb d_Deeds_joinLetters_32 rfl hl (by decide) rfl (fun ls hl => ?_)
  refine lv_aload_n hx hb d_Deeds_joinLetters_33 rfl (lv_at hl 1 rfl) ?_
  refine va_get (D := (dC, dI)) (ci := 10) (v := .ref ((u 6))) (C := R_Deeds) (T := F_Deeds) (N := 8) hx hb htt iw_Deeds hown hK hP 10 xo_10 rfl 6 (Nat.le_of_ble_eq_true rfl) (htt _ lk_Deeds_38) (fun _ h9 => h9) xg_10_6 d_Deeds_joinLetters_34 ?_
  refine va_get (D := (dC, dI)) (ci := 6) (v := .ref ((u 38))) (C := R_Output) (T := F_Output) (N := 11) hx hb htt iw_Output hown hK hP 6 xo_6 rfl 7 (Nat.le_of_ble_eq_true rfl) (htt _ lk_Deeds_229) (fun _ h9 => h9) xg_6_7 d_Deeds_joinLetters_37 ?_
  refine lv_iconst (v := 0) hx hb d_Deeds_joinLetters_40 (by decide) ?_
  refine lv_iload_n hx hb d_Deeds_joinLetters_41 rfl (lv_at hl 0 rfl) ?_
  obtain ⟨r_21, h_20, hm⟩ := ob0_some hm
  have hFc := x_free0 hS hA
  refine xg_calli (va_runS (As := [.ref ((u 38)), .int 0, .int x_19]) (rest := []) ⟨hx, hb, hml, hown, hts⟩ (x_Heap_numberIn_a28 l dC dI cI adK adV adA u o g H.size n h_20) (va_cwS 3 hts (tw_GS tw_cons cw_Heap_numberIn lk_Deeds_233 st_Heap_numberIn ini_Heap) rfl rfl rfl hd_Heap_numberIn ⟨Nat.le_of_ble_eq_true rfl, Nat.le_of_ble_eq_true rfl⟩) (xpSr hK hP hS hE hFc) rfl rfl hl.1 rfl (lv_room (Nat.le_of_ble_eq_true rfl)) d_Deeds_joinLetters_42 ⟨show kc_17 + 0 ≤ mc by omega, show ks_18 + 0 ≤ ms by omega⟩) hS (fun q _ h => hFc q h) hFc (fun kc_22 ks_23 r9 u9 t9 H locs ekc eks ht hvm e9 hB hz1 hk1 hS => ?_)
  replace hkc : kc_22 + k2.1 = mc := by omega
  replace hks : ks_23 + k2.2 = ms := by omega
  clear ekc eks
  have e9 : r_21 = r9 := e9
  subst e9
  replace hP := x_keep hP hk1
  clear hFc hk1 hz1 hvm hB ht
  refine lv_istore (lv' := [(4, .int r_21), (3, .int x_19), (0, .ref ((u 10))), (1, .int v1), (2, .int v2)]) hx hb d_Deeds_joinLetters_45 hl (by decide) rfl (fun ls hl => ?_)
  refine lv_iload hx hb d_Deeds_joinLetters_47 (lv_at hl 0 rfl) ?_
  refine lv_ldc (v := (-2147483639)) hx hb hown (htt _ lk_Deeds_168) d_Deeds_joinLetters_49 ?_
  refine lv_icmp_ne (tgt := 57) hx hb d_Deeds_joinLetters_51 (by decide) (fun c_24 => ?_) (fun c_24 => ?_)
  · replace hm := if_f c_24 hm
    refine lv_iload hx hb d_Deeds_joinLetters_57 (lv_at hl 0 rfl) ?_
    refine lv_ldc (v := (-2147483648)) hx hb hown (htt _ lk_Deeds_206) d_Deeds_joinLetters_59 ?_
    refine lv_icmp_eq (tgt := 68) hx hb d_Deeds_joinLetters_61 (by decide) (fun c_25 => ?_) (fun c_25 => ?_)
    · replace hm := if_t c_25 hm
      refine lv_iconst (v := 0) hx hb d_Deeds_joinLetters_68 (by decide) ?_
      exact lb_Deeds_joinLetters_69 l dC dI cI adK adV adA u n hx hb hml hown hts hK hE hA hr hlocks _ _ _ _ _ _ _ hm o kc_22 ks_23 hkc hks _ _ _ hP hD hS (lv_sub hl [2, 1, 0] rfl)
    · replace hm := if_f c_25 hm
      refine lv_iconst (v := 1) hx hb d_Deeds_joinLetters_64 (by decide) ?_
      refine lv_goto (tgt := 69) hx hb d_Deeds_joinLetters_65 (by decide) ?_
      exact lb_Deeds_joinLetters_69 l dC dI cI adK adV adA u n hx hb hml hown hts hK hE hA hr hlocks _ _ _ _ _ _ _ hm o kc_22 ks_23 hkc hks _ _ _ hP hD hS (lv_sub hl [2, 1, 0] rfl)
  · replace hm := if_t c_24 hm
    refine lv_iload hx hb d_Deeds_joinLetters_54 (lv_at hl 0 rfl) ?_
    obtain ⟨e1, e2, e4, e5, e6, e3⟩ := re5 hm
    obtain ⟨hP, hD⟩ := x_eqg e1 e2 e4 hP hD
    refine W.widen (k := mc) (n := ms) (show kc_22 ≤ mc by omega) (show ks_23 ≤ ms by omega) ?_
    exact W.iret hx hb hr (fun t9 ht hW => ⟨⟨_, o, rfl, e3.symm, by rw [ht]; exact hP, hD⟩, hS.F ht⟩) hS.2.2 d_Deeds_joinLetters_56

def m_Deeds_tell (n : Nat) (g : Nat → Nat) (i : Nat → Int32) (a : Nat → Nat → Int32) (v1 : Int32) (v2 : Int32) : Option ((Nat → Int32) × (Nat → Nat → Int32) × Int32) := ob0 (m_Heap_member n g i a v2 (0 : Int32)) (fun r_2 => ob0 (m_Heap_member n g i a v2 (1 : Int32)) (fun r_4 => ob0 (m_Heap_meaning n g i a v1) (fun r_6 => if r_6 = ((0 : Int32)) then ob0 (m_Heap_count n g i a v2) (fun r_9 => if r_9 = ((2 : Int32)) then ob0 (m_Heap_isList n r_2) (fun r_12 => if r_12 = ((0 : Int32)) then some (i, a, (-2147483645)) else ob0 (m_Heap_isList n r_4) (fun r_15 => if r_15 = ((0 : Int32)) then some (i, a, (-2147483645)) else ob0 (m_Deeds_canBeInputs n g i a r_2) (fun r_18 => if r_18 = ((0 : Int32)) then some (i, a, (-2147483645)) else ob0 (m_Heap_size n g i a r_4) (fun r_21 => if r_21 ≤ ((600 : Int32)) then ob (m_Procedures_tell n g i a v1 r_2 r_4) (fun i_24 a_25 r_26 => if r_26 = ((0 : Int32)) then some (i_24, a_25, (-2147483640)) else some (i_24, a_25, (-2147483648))) else some (i, a, (-2147483645)))))) else some (i, a, (-2147483645))) else some (i, a, (-2147483645)))))
set_option maxHeartbeats 4000000 in
set_option maxRecDepth 100000 in
theorem x_Deeds_tell (l : Launch) (dC : Nat → ClassId) (dI : Nat → Nat → Nat) (cI : ClassId) (adK adV adA u o g : Nat → Nat) (sz : Nat) (n : Nat) {i : Nat → Int32} {a : Nat → Nat → Int32} {v1 : Int32} {v2 : Int32} {i2 : Nat → Int32} {a2 : Nat → Nat → Int32} {r2 : Int32} (hm : m_Deeds_tell n g i a v1 v2 = some (i2, a2, r2)) : Met l y_Deeds_tell w_Deeds_tell ({ frames := 4, cells := 0, slots := 0, locals := 92 } : Room) (va_Pc [.ref ((u 10)), .int v1, .int v2] (xE dC dI cI adK adV adA u o g i a sz)) (va_Qi (xR r2) (xB dC dI cI u o g i2 a2 (va_A (TW cI u o i a g) sz)) (va_A (TW cI u o i a g) sz)) 0 0 ((va_A (TW cI u o i a g) sz)) := by
  refine Met.ofW (cc := b_Deeds_tell) (maxL := 5) (ret := (some .int)) (by decide) rfl ?_
  intro p e s m args below meth c s₁ B hml hv
  obtain ⟨rfl, hsz, hP, hK, hE, hD0⟩ := hv
  have hx := B.exec
  have hb := B.bytes
  have hr := B.returns
  have hts := atoms_spec (ws := w_Deeds_tell) B.pre
  have htt : ∀ w ∈ tw_T, w.before _ s = true := fun w h => hts w (List.mem_cons_of_mem _ h)
  have hown : s.vm.findClass R_Deeds = some m.cls := findClass_of_methodNamed B.named
  have hlocks := B.notSynchronized
  subst hsz
  have hD := hD0.self (sz := s.heap.size)
  generalize hAe : (va_A (TW cI u o i a g) s.heap.size) = A at hD hE ⊢
  have hA : ∀ q : Nat, s.heap.size ≤ q → A q := fun q h => by rw [← hAe]; exact Or.inr h
  have hS : va_S A s.heap s.heap [] := va_S.rf
  have hl := lv_entry ([.ref ((u 10)), .int v1, .int v2]) (n := 5) (Nat.le_of_ble_eq_true rfl)
  rw [lg_entry_eq]
  generalize (lg_sl ([.ref ((u 10)), .int v1, .int v2]) ++ List.replicate (5 - (lg_sl ([.ref ((u 10)), .int v1, .int v2])).length) Slot.unset).toArray = ls at hl ⊢
  have hl : lv_has ls 5 [(0, .ref ((u 10))), (1, .int v1), (2, .int v2)] := hl
  rw [m_Deeds_tell] at hm
  refine lv_aload_n hx hb d_Deeds_tell_0 rfl (lv_at hl 0 rfl) ?_
  refine va_get (D := (dC, dI)) (ci := 10) (v := .ref ((u 1))) (C := R_Deeds) (T := F_Deeds) (N := 8) hx hb htt iw_Deeds hown hK hP 10 xo_10 rfl 0 (Nat.le_of_ble_eq_true rfl) (htt _ lk_Deeds_15) (fun _ h9 => h9) xg_10_0 d_Deeds_tell_1 ?_
  refine lv_iload_n hx hb d_Deeds_tell_4 rfl (lv_at hl 2 rfl) ?_
  refine lv_iconst (v := 0) hx hb d_Deeds_tell_5 (by decide) ?_
  obtain ⟨r_2, h_1, hm⟩ := ob0_some hm
  have hFc := x_free0 hS hA
  refine va_calli (va_runV (As := [.int v2, .int 0]) (rest := []) ⟨hx, hb, hml, hown, hts⟩ (x_Heap_member l dC dI cI adK adV adA u o g s.heap.size n h_1) (cwV 2 hts (tw_GV tw_cons cw_Heap_member lk_Deeds_196 in_Heap_member sel_Heap_member ini_Heap) rfl rfl rfl ⟨rfl, hd_Heap_member⟩ ⟨Nat.le_of_ble_eq_true rfl, Nat.le_of_ble_eq_true rfl⟩) (xpVr hK hP hS hE hFc xo_1 rfl) rfl rfl hl.1 rfl (lv_room (Nat.le_of_ble_eq_true rfl)) d_Deeds_tell_6 ⟨Nat.le_of_ble_eq_true rfl, Nat.le_of_ble_eq_true rfl⟩) hS (fun q _ h => hFc q h) hFc (fun r9 u9 t9 H locs ht hvm e9 hB hz1 hk1 hS => ?_)
  have e9 : r_2 = r9 := e9
  subst e9
  replace hP := x_keep hP hk1
  clear hFc hk1 hz1 hvm hB ht
  refine lv_istore_n (lv' := [(3, .int r_2), (0, .ref ((u 10))), (1, .int v1), (2, .int v2)]) hx hb d_Deeds_tell_9 rfl hl (by decide) rfl (fun ls hl => ?_)
  refine lv_aload_n hx hb d_Deeds_tell_10 rfl (lv_at hl 1 rfl) ?_
  refine va_get (D := (dC, dI)) (ci := 10) (v := .ref ((u 1))) (C := R_Deeds) (T := F_Deeds) (N := 8) hx hb htt iw_Deeds hown hK hP 10 xo_10 rfl 0 (Nat.le_of_ble_eq_true rfl) (htt _ lk_Deeds_15) (fun _ h9 => h9) xg_10_0 d_Deeds_tell_11 ?_
  refine lv_iload_n hx hb d_Deeds_tell_14 rfl (lv_at hl 3 rfl) ?_
  refine lv_iconst (v := 1) hx hb d_Deeds_tell_15 (by decide) ?_
  obtain ⟨r_4, h_3, hm⟩ := ob0_some hm
  have hFc := x_free0 hS hA
  refine va_calli (va_runV (As := [.int v2, .int 1]) (rest := []) ⟨hx, hb, hml, hown, hts⟩ (x_Heap_member l dC dI cI adK adV adA u o g H.size n h_3) (cwV 2 hts (tw_GV tw_cons cw_Heap_member lk_Deeds_196 in_Heap_member sel_Heap_member ini_Heap) rfl rfl rfl ⟨rfl, hd_Heap_member⟩ ⟨Nat.le_of_ble_eq_true rfl, Nat.le_of_ble_eq_true rfl⟩) (xpVr hK hP hS hE hFc xo_1 rfl) rfl rfl hl.1 rfl (lv_room (Nat.le_of_ble_eq_true rfl)) d_Deeds_tell_16 ⟨Nat.le_of_ble_eq_true rfl, Nat.le_of_ble_eq_true rfl⟩) hS (fun q _ h => hFc q h) hFc (fun r9 u9 t9 H locs ht hvm e9 hB hz1 hk1 hS => ?_)
  have e9 : r_4 = r9 := e9
  subst e9
  replace hP := x_keep hP hk1
  clear hFc hk1 hz1 hvm hB ht
  refine lv_istore (lv' := [(4, .int r_4), (3, .int r_2), (0, .ref ((u 10))), (1, .int v1), (2, .int v2)]) hx hb d_Deeds_tell_19 hl (by decide) rfl (fun ls hl => ?_)
  refine lv_aload_n hx hb d_Deeds_tell_21 rfl (lv_at hl 2 rfl) ?_
  refine va_get (D := (dC, dI)) (ci := 10) (v := .ref ((u 1))) (C := R_Deeds) (T := F_Deeds) (N := 8) hx hb htt iw_Deeds hown hK hP 10 xo_10 rfl 0 (Nat.le_of_ble_eq_true rfl) (htt _ lk_Deeds_15) (fun _ h9 => h9) xg_10_0 d_Deeds_tell_22 ?_
  refine lv_iload_n hx hb d_Deeds_tell_25 rfl (lv_at hl 3 rfl) ?_
  obtain ⟨r_6, h_5, hm⟩ := ob0_some hm
  have hFc := x_free0 hS hA
  refine va_calli (va_runV (As := [.int v1]) (rest := []) ⟨hx, hb, hml, hown, hts⟩ (x_Heap_meaning l dC dI cI adK adV adA u o g H.size n h_5) (cwV 1 hts (tw_GV tw_cons cw_Heap_meaning lk_Deeds_278 in_Heap_meaning sel_Heap_meaning ini_Heap) rfl rfl rfl ⟨rfl, hd_Heap_meaning⟩ ⟨Nat.le_of_ble_eq_true rfl, Nat.le_of_ble_eq_true rfl⟩) (xpVr hK hP hS hE hFc xo_1 rfl) rfl rfl hl.1 rfl (lv_room (Nat.le_of_ble_eq_true rfl)) d_Deeds_tell_26 ⟨Nat.le_of_ble_eq_true rfl, Nat.le_of_ble_eq_true rfl⟩) hS (fun q _ h => hFc q h) hFc (fun r9 u9 t9 H locs ht hvm e9 hB hz1 hk1 hS => ?_)
  have e9 : r_6 = r9 := e9
  subst e9
  replace hP := x_keep hP hk1
  clear hFc hk1 hz1 hvm hB ht
  refine lv_if_ne (tgt := 59) hx hb d_Deeds_tell_29 (by decide) (fun c_7 => ?_) (fun c_7 => ?_)
  · replace hm := if_f c_7 hm
    refine lv_ldc (v := (-2147483645)) hx hb hown (htt _ lk_Deeds_146) d_Deeds_tell_59 ?_
    obtain ⟨e1i, e1a, e3⟩ := re3 hm
    obtain ⟨hP, hD⟩ := x_eq e1i e1a hP hD
    exact W.iret hx hb hr (fun t9 ht hW => ⟨⟨_, (), rfl, e3.symm, by rw [ht]; exact hP, hD⟩, hS.F ht⟩) hS.2.2 d_Deeds_tell_61
  · replace hm := if_t c_7 hm
    refine lv_aload_n hx hb d_Deeds_tell_32 rfl (lv_at hl 2 rfl) ?_
    refine va_get (D := (dC, dI)) (ci := 10) (v := .ref ((u 1))) (C := R_Deeds) (T := F_Deeds) (N := 8) hx hb htt iw_Deeds hown hK hP 10 xo_10 rfl 0 (Nat.le_of_ble_eq_true rfl) (htt _ lk_Deeds_15) (fun _ h9 => h9) xg_10_0 d_Deeds_tell_33 ?_
    refine lv_iload_n hx hb d_Deeds_tell_36 rfl (lv_at hl 4 rfl) ?_
    obtain ⟨r_9, h_8, hm⟩ := ob0_some hm
    have hFc := x_free0 hS hA
    refine va_calli (va_runV (As := [.int v2]) (rest := []) ⟨hx, hb, hml, hown, hts⟩ (x_Heap_count l dC dI cI adK adV adA u o g H.size n h_8) (cwV 1 hts (tw_GV tw_cons cw_Heap_count lk_Deeds_173 in_Heap_count sel_Heap_count ini_Heap) rfl rfl rfl ⟨rfl, hd_Heap_count⟩ ⟨Nat.le_of_ble_eq_true rfl, Nat.le_of_ble_eq_true rfl⟩) (xpVr hK hP hS hE hFc xo_1 rfl) rfl rfl hl.1 rfl (lv_room (Nat.le_of_ble_eq_true rfl)) d_Deeds_tell_37 ⟨Nat.le_of_ble_eq_true rfl, Nat.le_of_ble_eq_true rfl⟩) hS (fun q _ h => hFc q h) hFc (fun r9 u9 t9 H locs ht hvm e9 hB hz1 hk1 hS => ?_)
    have e9 : r_9 = r9 := e9
    subst e9
    replace hP := x_keep hP hk1
    clear hFc hk1 hz1 hvm hB ht
    refine lv_iconst (v := 2) hx hb d_Deeds_tell_40 (by decide) ?_
    refine lv_icmp_ne (tgt := 59) hx hb d_Deeds_tell_41 (by decide) (fun c_10 => ?_) (fun c_10 => ?_)
    · replace hm := if_f c_10 hm
      refine lv_ldc (v := (-2147483645)) hx hb hown (htt _ lk_Deeds_146) d_Deeds_tell_59 ?_
      obtain ⟨e1i, e1a, e3⟩ := re3 hm
      obtain ⟨hP, hD⟩ := x_eq e1i e1a hP hD
      exact W.iret hx hb hr (fun t9 ht hW => ⟨⟨_, (), rfl, e3.symm, by rw [ht]; exact hP, hD⟩, hS.F ht⟩) hS.2.2 d_Deeds_tell_61
    · replace hm := if_t c_10 hm
      refine lv_iload_n hx hb d_Deeds_tell_44 rfl (lv_at hl 1 rfl) ?_
      obtain ⟨r_12, h_11, hm⟩ := ob0_some hm
      have hFc := x_free0 hS hA
      refine va_calli (va_runS (As := [.int r_2]) (rest := []) ⟨hx, hb, hml, hown, hts⟩ (x_Heap_isList l H.size n h_11) (va_cwS 1 hts (tw_GS tw_cons cw_Heap_isList lk_Deeds_75 st_Heap_isList ini_Heap) rfl rfl rfl hd_Heap_isList ⟨Nat.le_of_ble_eq_true rfl, Nat.le_of_ble_eq_true rfl⟩) xpS0 rfl rfl hl.1 rfl (lv_room (Nat.le_of_ble_eq_true rfl)) d_Deeds_tell_45 ⟨Nat.le_of_ble_eq_true rfl, Nat.le_of_ble_eq_true rfl⟩) hS (fun q _ h => hFc q h) hFc (fun r9 u9 t9 H locs ht hvm e9 hB hz1 hk1 hS => ?_)
      have e9 : r_12 = r9 := e9
      subst e9
      replace hP := x_keep hP hk1
      clear hFc hk1 hz1 hvm hB ht
      refine lv_if_eq (tgt := 59) hx hb d_Deeds_tell_48 (by decide) (fun c_13 => ?_) (fun c_13 => ?_)
      · replace hm := if_t c_13 hm
        refine lv_ldc (v := (-2147483645)) hx hb hown (htt _ lk_Deeds_146) d_Deeds_tell_59 ?_
        obtain ⟨e1i, e1a, e3⟩ := re3 hm
        obtain ⟨hP, hD⟩ := x_eq e1i e1a hP hD
        exact W.iret hx hb hr (fun t9 ht hW => ⟨⟨_, (), rfl, e3.symm, by rw [ht]; exact hP, hD⟩, hS.F ht⟩) hS.2.2 d_Deeds_tell_61
      · replace hm := if_f c_13 hm
        refine lv_iload hx hb d_Deeds_tell_51 (lv_at hl 0 rfl) ?_
        obtain ⟨r_15, h_14, hm⟩ := ob0_some hm
        have hFc := x_free0 hS hA
        refine va_calli (va_runS (As := [.int r_4]) (rest := []) ⟨hx, hb, hml, hown, hts⟩ (x_Heap_isList l H.size n h_14) (va_cwS 1 hts (tw_GS tw_cons cw_Heap_isList lk_Deeds_75 st_Heap_isList ini_Heap) rfl rfl rfl hd_Heap_isList ⟨Nat.le_of_ble_eq_true rfl, Nat.le_of_ble_eq_true rfl⟩) xpS0 rfl rfl hl.1 rfl (lv_room (Nat.le_of_ble_eq_true rfl)) d_Deeds_tell_53 ⟨Nat.le_of_ble_eq_true rfl, Nat.le_of_ble_eq_true rfl⟩) hS (fun q _ h => hFc q h) hFc (fun r9 u9 t9 H locs ht hvm e9 hB hz1 hk1 hS => ?_)
        have e9 : r_15 = r9 := e9
        subst e9
        replace hP := x_keep hP hk1
        clear hFc hk1 hz1 hvm hB ht
        refine lv_if_ne (tgt := 62) hx hb d_Deeds_tell_56 (by decide) (fun c_16 => ?_) (fun c_16 => ?_)
        · replace hm := if_f c_16 hm
          refine lv_aload_n hx hb d_Deeds_tell_62 rfl (lv_at hl 2 rfl) ?_
          refine lv_iload_n hx hb d_Deeds_tell_63 rfl (lv_at hl 1 rfl) ?_
          obtain ⟨r_18, h_17, hm⟩ := ob0_some hm
          have hFc := x_free0 hS hA
          refine va_calli (va_runV (As := [.int r_2]) (rest := []) ⟨hx, hb, hml, hown, hts⟩ (x_Deeds_canBeInputs l dC dI cI adK adV adA u o g H.size n h_17) (cwV 1 hts (tw_GV tw_cons cw_Deeds_canBeInputs lk_Deeds_281 in_Deeds_canBeInputs sel_Deeds_canBeInputs ini_Deeds) rfl rfl rfl ⟨rfl, hd_Deeds_canBeInputs⟩ ⟨Nat.le_of_ble_eq_true rfl, Nat.le_of_ble_eq_true rfl⟩) (xpVr hK hP hS hE hFc xo_10 rfl) rfl rfl hl.1 rfl (lv_room (Nat.le_of_ble_eq_true rfl)) d_Deeds_tell_64 ⟨Nat.le_of_ble_eq_true rfl, Nat.le_of_ble_eq_true rfl⟩) hS (fun q _ h => hFc q h) hFc (fun r9 u9 t9 H locs ht hvm e9 hB hz1 hk1 hS => ?_)
          have e9 : r_18 = r9 := e9
          subst e9
          replace hP := x_keep hP hk1
          clear hFc hk1 hz1 hvm hB ht
          refine lv_if_eq (tgt := 85) hx hb d_Deeds_tell_67 (by decide) (fun c_19 => ?_) (fun c_19 => ?_)
          · replace hm := if_t c_19 hm
            refine lv_ldc (v := (-2147483645)) hx hb hown (htt _ lk_Deeds_146) d_Deeds_tell_85 ?_
            obtain ⟨e1i, e1a, e3⟩ := re3 hm
            obtain ⟨hP, hD⟩ := x_eq e1i e1a hP hD
            exact W.iret hx hb hr (fun t9 ht hW => ⟨⟨_, (), rfl, e3.symm, by rw [ht]; exact hP, hD⟩, hS.F ht⟩) hS.2.2 d_Deeds_tell_87
          · replace hm := if_f c_19 hm
            refine lv_aload_n hx hb d_Deeds_tell_70 rfl (lv_at hl 2 rfl) ?_
            refine va_get (D := (dC, dI)) (ci := 10) (v := .ref ((u 1))) (C := R_Deeds) (T := F_Deeds) (N := 8) hx hb htt iw_Deeds hown hK hP 10 xo_10 rfl 0 (Nat.le_of_ble_eq_true rfl) (htt _ lk_Deeds_15) (fun _ h9 => h9) xg_10_0 d_Deeds_tell_71 ?_
            refine lv_iload hx hb d_Deeds_tell_74 (lv_at hl 0 rfl) ?_
            obtain ⟨r_21, h_20, hm⟩ := ob0_some hm
            have hFc := x_free0 hS hA
            refine va_calli (va_runV (As := [.int r_4]) (rest := []) ⟨hx, hb, hml, hown, hts⟩ (x_Heap_size l dC dI cI adK adV adA u o g H.size n h_20) (cwV 1 hts (tw_GV tw_cons cw_Heap_size lk_Deeds_207 in_Heap_size sel_Heap_size ini_Heap) rfl rfl rfl ⟨rfl, hd_Heap_size⟩ ⟨Nat.le_of_ble_eq_true rfl, Nat.le_of_ble_eq_true rfl⟩) (xpVr hK hP hS hE hFc xo_1 rfl) rfl rfl hl.1 rfl (lv_room (Nat.le_of_ble_eq_true rfl)) d_Deeds_tell_76 ⟨Nat.le_of_ble_eq_true rfl, Nat.le_of_ble_eq_true rfl⟩) hS (fun q _ h => hFc q h) hFc (fun r9 u9 t9 H locs ht hvm e9 hB hz1 hk1 hS => ?_)
            have e9 : r_21 = r9 := e9
            subst e9
            replace hP := x_keep hP hk1
            clear hFc hk1 hz1 hvm hB ht
            refine lv_sipush (v := 600) hx hb d_Deeds_tell_79 (by decide) ?_
            refine lv_icmp_le (tgt := 88) hx hb d_Deeds_tell_82 (by decide) (fun c_22 => ?_) (fun c_22 => ?_)
            · replace hm := if_t c_22 hm
              refine lv_aload_n hx hb d_Deeds_tell_88 rfl (lv_at hl 2 rfl) ?_
              refine va_get (D := (dC, dI)) (ci := 10) (v := .ref ((u 4))) (C := R_Deeds) (T := F_Deeds) (N := 8) hx hb htt iw_Deeds hown hK hP 10 xo_10 rfl 4 (Nat.le_of_ble_eq_true rfl) (htt _ lk_Deeds_30) (fun _ h9 => h9) xg_10_4 d_Deeds_tell_89 ?_
              refine lv_iload_n hx hb d_Deeds_tell_92 rfl (lv_at hl 3 rfl) ?_
              refine lv_iload_n hx hb d_Deeds_tell_93 rfl (lv_at hl 1 rfl) ?_
              refine lv_iload hx hb d_Deeds_tell_94 (lv_at hl 0 rfl) ?_
              obtain ⟨i_24, a_25, r_26, h_23, hm⟩ := ob_some hm
              have hFc := x_free hD hS hA
              refine va_calli (va_runV (As := [.int v1, .int r_2, .int r_4]) (rest := []) ⟨hx, hb, hml, hown, hts⟩ (x_Procedures_tell l dC dI cI adK adV adA u o g H.size n h_23) (cwV 3 hts (tw_GV tw_cons cw_Procedures_tell lk_Deeds_284 in_Procedures_tell sel_Procedures_tell ini_Procedures) rfl rfl rfl ⟨rfl, hd_Procedures_tell⟩ ⟨Nat.le_of_ble_eq_true rfl, Nat.le_of_ble_eq_true rfl⟩) (xpV hK hP hD hS hE hFc xo_4 rfl) rfl rfl hl.1 rfl (lv_room (Nat.le_of_ble_eq_true rfl)) d_Deeds_tell_96 ⟨Nat.le_of_ble_eq_true rfl, Nat.le_of_ble_eq_true rfl⟩) hS (fun q _ h => hFc q h) hFc (fun r9 u9 t9 H locs ht hvm e9 hB hz1 hk1 hS => ?_)
              have e9 : r_26 = r9 := e9
              subst e9
              obtain ⟨hP, hD⟩ := x_aft hB ht hFc
              clear hFc hk1 hz1 hvm hB ht
              refine lv_if_eq (tgt := 107) hx hb d_Deeds_tell_99 (by decide) (fun c_27 => ?_) (fun c_27 => ?_)
              · replace hm := if_t c_27 hm
                refine lv_ldc (v := (-2147483640)) hx hb hown (htt _ lk_Deeds_202) d_Deeds_tell_107 ?_
                obtain ⟨e1i, e1a, e3⟩ := re3 hm
                obtain ⟨hP, hD⟩ := x_eq e1i e1a hP hD
                exact W.iret hx hb hr (fun t9 ht hW => ⟨⟨_, (), rfl, e3.symm, by rw [ht]; exact hP, hD⟩, hS.F ht⟩) hS.2.2 d_Deeds_tell_109
              · replace hm := if_f c_27 hm
                refine lv_ldc (v := (-2147483648)) hx hb hown (htt _ lk_Deeds_206) d_Deeds_tell_102 ?_
                refine lv_goto (tgt := 109) hx hb d_Deeds_tell_104 (by decide) ?_
                obtain ⟨e1i, e1a, e3⟩ := re3 hm
                obtain ⟨hP, hD⟩ := x_eq e1i e1a hP hD
                exact W.iret hx hb hr (fun t9 ht hW => ⟨⟨_, (), rfl, e3.symm, by rw [ht]; exact hP, hD⟩, hS.F ht⟩) hS.2.2 d_Deeds_tell_109
            · replace hm := if_f c_22 hm
              refine lv_ldc (v := (-2147483645)) hx hb hown (htt _ lk_Deeds_146) d_Deeds_tell_85 ?_
              obtain ⟨e1i, e1a, e3⟩ := re3 hm
              obtain ⟨hP, hD⟩ := x_eq e1i e1a hP hD
              exact W.iret hx hb hr (fun t9 ht hW => ⟨⟨_, (), rfl, e3.symm, by rw [ht]; exact hP, hD⟩, hS.F ht⟩) hS.2.2 d_Deeds_tell_87
        · replace hm := if_t c_16 hm
          refine lv_ldc (v := (-2147483645)) hx hb hown (htt _ lk_Deeds_146) d_Deeds_tell_59 ?_
          obtain ⟨e1i, e1a, e3⟩ := re3 hm
          obtain ⟨hP, hD⟩ := x_eq e1i e1a hP hD
          exact W.iret hx hb hr (fun t9 ht hW => ⟨⟨_, (), rfl, e3.symm, by rw [ht]; exact hP, hD⟩, hS.F ht⟩) hS.2.2 d_Deeds_tell_61

def m_Deeds_write_b29 (n : Nat) (g : Nat → Nat) (i : Nat → Int32) (a : Nat → Nat → Int32)  : Option ((Nat → Int32) × (Nat → Nat → Int32) × Int32) := ob (m_Output_send n g i a) (fun i_2 a_3 r_4 => some (i_2, a_3, (-2147483648)))
set_option maxHeartbeats 4000000 in
set_option maxRecDepth 100000 in
theorem lb_Deeds_write_29 (l : Launch) (dC : Nat → ClassId) (dI : Nat → Nat → Nat) (cI : ClassId) (adK adV adA u o g : Nat → Nat) (n : Nat) {p : Program} {e : Env} {s : State} {m : MethodId} {args : Array Value} {below : List Frame} {meth : Method} {c : Code} {A : Nat → Prop} (hx : p.tables.exec = Jvm.exec) (hb : c.code = b_Deeds_write) (hml : c.maxLocals = 4) (hown : s.vm.findClass R_Deeds = some m.cls) (hts : ∀ w ∈ w_Deeds_write, w.before args s = true) (hK : va_K (dC, dI) classes [(cI, .int)] s) (hE : tw_E adK adV adA A s s.heap) (hA : ∀ q : Nat, s.heap.size ≤ q → A q) (hr : meth.sig.returnType = (some .int)) (hlocks : meth.locks = false) {i2 : Nat → Int32} {a2 : Nat → Nat → Int32} {r2 : Int32} (i : Nat → Int32) (a : Nat → Nat → Int32)  (hm : m_Deeds_write_b29 n g i a = some (i2, a2, r2)) : ∀ (H : Heap) (locs : List Loc) (ls : Array Slot), va_P (dC, dI) classes (TW cI u o i a g) H → va_D A (TW cI u o i a g) → va_S A s.heap H locs → lv_has ls 4 [(0, .ref ((u 10)))] → W p l e ({ frames := 3, cells := 0, slots := 0, locals := 76 } : Room) s m args below meth c H locs 0 0 (MQ below (va_Qi (xR r2) (xB dC dI cI u o g i2 a2 A) A) args s 0 0 A) (F0 m 29 ls []) := by
  have htt : ∀ w ∈ tw_T, w.before _ s = true := fun w h => hts w (List.mem_cons_of_mem _ h)
  intro H locs ls hP hD hS hl
  rw [m_Deeds_write_b29] at hm
  refine lv_aload_n hx hb d_Deeds_write_29 rfl (lv_at hl 0 rfl) ?_
  refine va_get (D := (dC, dI)) (ci := 10) (v := .ref ((u 6))) (C := R_Deeds) (T := F_Deeds) (N := 8) hx hb htt iw_Deeds hown hK hP 10 xo_10 rfl 6 (Nat.le_of_ble_eq_true rfl) (htt _ lk_Deeds_38) (fun _ h9 => h9) xg_10_6 d_Deeds_write_30 ?_
  obtain ⟨i_2, a_3, r_4, h_1, hm⟩ := ob_some hm
  have hFc := x_free hD hS hA
  refine va_callv (va_runV (As := []) (rest := []) ⟨hx, hb, hml, hown, hts⟩ (x_Output_send l dC dI cI adK adV adA u o g H.size n h_1) (cwV 0 hts (tw_GV tw_cons cw_Output_send lk_Deeds_300 in_Output_send sel_Output_send ini_Output) rfl rfl rfl ⟨rfl, hd_Output_send⟩ ⟨Nat.le_of_ble_eq_true rfl, Nat.le_of_ble_eq_true rfl⟩) (xpV hK hP hD hS hE hFc xo_6 rfl) rfl rfl hl.1 rfl (lv_room (Nat.le_of_ble_eq_true rfl)) d_Deeds_write_33 ⟨Nat.le_of_ble_eq_true rfl, Nat.le_of_ble_eq_true rfl⟩) hS (fun q _ h => hFc q h) hFc (fun u9 t9 H locs ht hvm e9 hB hz1 hk1 hS => ?_)
  obtain ⟨hP, hD⟩ := x_aft hB ht hFc
  clear hFc hk1 hz1 hvm hB ht
  refine lv_ldc (v := (-2147483648)) hx hb hown (htt _ lk_Deeds_206) d_Deeds_write_36 ?_
  obtain ⟨e1i, e1a, e3⟩ := re3 hm
  obtain ⟨hP, hD⟩ := x_eq e1i e1a hP hD
  exact W.iret hx hb hr (fun t9 ht hW => ⟨⟨_, (), rfl, e3.symm, by rw [ht]; exact hP, hD⟩, hS.F ht⟩) hS.2.2 d_Deeds_write_38
def m_Deeds_write (n : Nat) (g : Nat → Nat) (i : Nat → Int32) (a : Nat → Nat → Int32) (v1 : Int32) (v2 : Int32) (v3 : Int32) : Option ((Nat → Int32) × (Nat → Nat → Int32) × Int32) := ob (m_Output_begin n g i a) (fun i_2 a_3 r_4 => ob (m_Output_addShown n g i_2 a_3 v1 v2) (fun i_6 a_7 r_8 => if v3 = ((0 : Int32)) then m_Deeds_write_b29 n g i_6 a_7 else ob (m_Output_add n g i_6 a_7 (10 : Int32)) (fun i_11 a_12 r_13 => m_Deeds_write_b29 n g i_11 a_12)))
set_option maxHeartbeats 4000000 in
set_option maxRecDepth 100000 in
theorem x_Deeds_write (l : Launch) (dC : Nat → ClassId) (dI : Nat → Nat → Nat) (cI : ClassId) (adK adV adA u o g : Nat → Nat) (sz : Nat) (n : Nat) {i : Nat → Int32} {a : Nat → Nat → Int32} {v1 : Int32} {v2 : Int32} {v3 : Int32} {i2 : Nat → Int32} {a2 : Nat → Nat → Int32} {r2 : Int32} (hm : m_Deeds_write n g i a v1 v2 v3 = some (i2, a2, r2)) : Met l y_Deeds_write w_Deeds_write ({ frames := 3, cells := 0, slots := 0, locals := 76 } : Room) (va_Pc [.ref ((u 10)), .int v1, .int v2, .int v3] (xE dC dI cI adK adV adA u o g i a sz)) (va_Qi (xR r2) (xB dC dI cI u o g i2 a2 (va_A (TW cI u o i a g) sz)) (va_A (TW cI u o i a g) sz)) 0 0 ((va_A (TW cI u o i a g) sz)) := by
  refine Met.ofW (cc := b_Deeds_write) (maxL := 4) (ret := (some .int)) (by decide) rfl ?_
  intro p e s m args below meth c s₁ B hml hv
  obtain ⟨rfl, hsz, hP, hK, hE, hD0⟩ := hv
  have hx := B.exec
  have hb := B.bytes
  have hr := B.returns
  have hts := atoms_spec (ws := w_Deeds_write) B.pre
  have htt : ∀ w ∈ tw_T, w.before _ s = true := fun w h => hts w (List.mem_cons_of_mem _ h)
  have hown : s.vm.findClass R_Deeds = some m.cls := findClass_of_methodNamed B.named
  have hlocks := B.notSynchronized
  subst hsz
  have hD := hD0.self (sz := s.heap.size)
  generalize hAe : (va_A (TW cI u o i a g) s.heap.size) = A at hD hE ⊢
  have hA : ∀ q : Nat, s.heap.size ≤ q → A q := fun q h => by rw [← hAe]; exact Or.inr h
  have hS : va_S A s.heap s.heap [] := va_S.rf
  have hl := lv_entry ([.ref ((u 10)), .int v1, .int v2, .int v3]) (n := 4) (Nat.le_of_ble_eq_true rfl)
  rw [lg_entry_eq]
  generalize (lg_sl ([.ref ((u 10)), .int v1, .int v2, .int v3]) ++ List.replicate (4 - (lg_sl ([.ref ((u 10)), .int v1, .int v2, .int v3])).length) Slot.unset).toArray = ls at hl ⊢
  have hl : lv_has ls 4 [(0, .ref ((u 10))), (1, .int v1), (2, .int v2), (3, .int v3)] := hl
  rw [m_Deeds_write] at hm
  refine lv_aload_n hx hb d_Deeds_write_0 rfl (lv_at hl 0 rfl) ?_
  refine va_get (D := (dC, dI)) (ci := 10) (v := .ref ((u 6))) (C := R_Deeds) (T := F_Deeds) (N := 8) hx hb htt iw_Deeds hown hK hP 10 xo_10 rfl 6 (Nat.le_of_ble_eq_true rfl) (htt _ lk_Deeds_38) (fun _ h9 => h9) xg_10_6 d_Deeds_write_1 ?_
  obtain ⟨i_2, a_3, r_4, h_1, hm⟩ := ob_some hm
  have hFc := x_free hD hS hA
  refine va_callv (va_runV (As := []) (rest := []) ⟨hx, hb, hml, hown, hts⟩ (x_Output_begin l dC dI cI adK adV adA u o g s.heap.size n h_1) (cwV 0 hts (tw_GV tw_cons cw_Output_begin lk_Deeds_217 in_Output_begin sel_Output_begin ini_Output) rfl rfl rfl ⟨rfl, hd_Output_begin⟩ ⟨Nat.le_of_ble_eq_true rfl, Nat.le_of_ble_eq_true rfl⟩) (xpV hK hP hD hS hE hFc xo_6 rfl) rfl rfl hl.1 rfl (lv_room (Nat.le_of_ble_eq_true rfl)) d_Deeds_write_4 ⟨Nat.le_of_ble_eq_true rfl, Nat.le_of_ble_eq_true rfl⟩) hS (fun q _ h => hFc q h) hFc (fun u9 t9 H locs ht hvm e9 hB hz1 hk1 hS => ?_)
  obtain ⟨hP, hD⟩ := x_aft hB ht hFc
  clear hFc hk1 hz1 hvm hB ht
  refine lv_aload_n hx hb d_Deeds_write_7 rfl (lv_at hl 0 rfl) ?_
  refine va_get (D := (dC, dI)) (ci := 10) (v := .ref ((u 6))) (C := R_Deeds) (T := F_Deeds) (N := 8) hx hb htt iw_Deeds hown hK hP 10 xo_10 rfl 6 (Nat.le_of_ble_eq_true rfl) (htt _ lk_Deeds_38) (fun _ h9 => h9) xg_10_6 d_Deeds_write_8 ?_
  refine lv_iload_n hx hb d_Deeds_write_11 rfl (lv_at hl 1 rfl) ?_
  refine lv_iload_n hx hb d_Deeds_write_12 rfl (lv_at hl 2 rfl) ?_
  obtain ⟨i_6, a_7, r_8, h_5, hm⟩ := ob_some hm
  have hFc := x_free hD hS hA
  refine va_callv (va_runV (As := [.int v1, .int v2]) (rest := []) ⟨hx, hb, hml, hown, hts⟩ (x_Output_addShown l dC dI cI adK adV adA u o g H.size n h_5) (cwV 2 hts (tw_GV tw_cons cw_Output_addShown lk_Deeds_222 in_Output_addShown sel_Output_addShown ini_Output) rfl rfl rfl ⟨rfl, hd_Output_addShown⟩ ⟨Nat.le_of_ble_eq_true rfl, Nat.le_of_ble_eq_true rfl⟩) (xpV hK hP hD hS hE hFc xo_6 rfl) rfl rfl hl.1 rfl (lv_room (Nat.le_of_ble_eq_true rfl)) d_Deeds_write_13 ⟨Nat.le_of_ble_eq_true rfl, Nat.le_of_ble_eq_true rfl⟩) hS (fun q _ h => hFc q h) hFc (fun u9 t9 H locs ht hvm e9 hB hz1 hk1 hS => ?_)
  obtain ⟨hP, hD⟩ := x_aft hB ht hFc
  clear hFc hk1 hz1 hvm hB ht
  refine lv_iload_n hx hb d_Deeds_write_16 rfl (lv_at hl 3 rfl) ?_
  refine lv_if_eq (tgt := 29) hx hb d_Deeds_write_17 (by decide) (fun c_9 => ?_) (fun c_9 => ?_)
  · replace hm := if_t c_9 hm
    exact lb_Deeds_write_29 l dC dI cI adK adV adA u o g n hx hb hml hown hts hK hE hA hr hlocks _ _ hm _ _ _ hP hD hS (lv_sub hl [0] rfl)
  · replace hm := if_f c_9 hm
    refine lv_aload_n hx hb d_Deeds_write_20 rfl (lv_at hl 0 rfl) ?_
    refine va_get (D := (dC, dI)) (ci := 10) (v := .ref ((u 6))) (C := R_Deeds) (T := F_Deeds) (N := 8) hx hb htt iw_Deeds hown hK hP 10 xo_10 rfl 6 (Nat.le_of_ble_eq_true rfl) (htt _ lk_Deeds_38) (fun _ h9 => h9) xg_10_6 d_Deeds_write_21 ?_
    refine lv_bipush (v := 10) hx hb d_Deeds_write_24 (by decide) ?_
    obtain ⟨i_11, a_12, r_13, h_10, hm⟩ := ob_some hm
    have hFc := x_free hD hS hA
    refine va_callv (va_runV (As := [.int 10]) (rest := []) ⟨hx, hb, hml, hown, hts⟩ (x_Output_add l dC dI cI adK adV adA u o g H.size n h_10) (cwV 1 hts (tw_GV tw_cons cw_Output_add lk_Deeds_296 in_Output_add sel_Output_add ini_Output) rfl rfl rfl ⟨rfl, hd_Output_add⟩ ⟨Nat.le_of_ble_eq_true rfl, Nat.le_of_ble_eq_true rfl⟩) (xpV hK hP hD hS hE hFc xo_6 rfl) rfl rfl hl.1 rfl (lv_room (Nat.le_of_ble_eq_true rfl)) d_Deeds_write_26 ⟨Nat.le_of_ble_eq_true rfl, Nat.le_of_ble_eq_true rfl⟩) hS (fun q _ h => hFc q h) hFc (fun u9 t9 H locs ht hvm e9 hB hz1 hk1 hS => ?_)
    obtain ⟨hP, hD⟩ := x_aft hB ht hFc
    clear hFc hk1 hz1 hvm hB ht
    exact lb_Deeds_write_29 l dC dI cI adK adV adA u o g n hx hb hml hown hts hK hE hA hr hlocks _ _ hm _ _ _ hP hD hS (lv_sub hl [0] rfl)
