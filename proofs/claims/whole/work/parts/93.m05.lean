theorem d_Model_equal_0 : decode b_Model_equal 0 = .ok (.iconst 1, 1) := by decide +kernel
theorem d_Model_equal_1 : decode b_Model_equal 1 = .ok (.istore 5, 2) := by decide +kernel
theorem d_Model_equal_3 : decode b_Model_equal 3 = .ok (.aload_n 0, 1) := by decide +kernel
theorem d_Model_equal_4 : decode b_Model_equal 4 = .ok (.getfield 85, 3) := by decide +kernel
theorem d_Model_equal_7 : decode b_Model_equal 7 = .ok (.iconst 0, 1) := by decide +kernel
theorem d_Model_equal_8 : decode b_Model_equal 8 = .ok (.lload_n 1, 1) := by decide +kernel
theorem d_Model_equal_9 : decode b_Model_equal 9 = .ok (.lastore, 1) := by decide +kernel
theorem d_Model_equal_10 : decode b_Model_equal 10 = .ok (.aload_n 0, 1) := by decide +kernel
theorem d_Model_equal_11 : decode b_Model_equal 11 = .ok (.getfield 88, 3) := by decide +kernel
theorem d_Model_equal_14 : decode b_Model_equal 14 = .ok (.iconst 0, 1) := by decide +kernel
theorem d_Model_equal_15 : decode b_Model_equal 15 = .ok (.lload_n 3, 1) := by decide +kernel
theorem d_Model_equal_16 : decode b_Model_equal 16 = .ok (.lastore, 1) := by decide +kernel
theorem d_Model_equal_17 : decode b_Model_equal 17 = .ok (.iload 5, 2) := by decide +kernel
theorem d_Model_equal_19 : decode b_Model_equal 19 = .ok (.ifCond .le 190, 3) := by decide +kernel
theorem d_Model_equal_22 : decode b_Model_equal 22 = .ok (.iinc 5 (-1), 3) := by decide +kernel
theorem d_Model_equal_25 : decode b_Model_equal 25 = .ok (.aload_n 0, 1) := by decide +kernel
theorem d_Model_equal_26 : decode b_Model_equal 26 = .ok (.getfield 85, 3) := by decide +kernel
theorem d_Model_equal_29 : decode b_Model_equal 29 = .ok (.iload 5, 2) := by decide +kernel
theorem d_Model_equal_31 : decode b_Model_equal 31 = .ok (.laload, 1) := by decide +kernel
theorem d_Model_equal_32 : decode b_Model_equal 32 = .ok (.lstore 6, 2) := by decide +kernel
theorem d_Model_equal_34 : decode b_Model_equal 34 = .ok (.aload_n 0, 1) := by decide +kernel
theorem d_Model_equal_35 : decode b_Model_equal 35 = .ok (.getfield 88, 3) := by decide +kernel
theorem d_Model_equal_38 : decode b_Model_equal 38 = .ok (.iload 5, 2) := by decide +kernel
theorem d_Model_equal_40 : decode b_Model_equal 40 = .ok (.laload, 1) := by decide +kernel
theorem d_Model_equal_41 : decode b_Model_equal 41 = .ok (.lstore 8, 2) := by decide +kernel
theorem d_Model_equal_43 : decode b_Model_equal 43 = .ok (.lload 6, 2) := by decide +kernel
theorem d_Model_equal_45 : decode b_Model_equal 45 = .ok (.invokestatic 11, 3) := by decide +kernel
theorem d_Model_equal_48 : decode b_Model_equal 48 = .ok (.lload 8, 2) := by decide +kernel
theorem d_Model_equal_50 : decode b_Model_equal 50 = .ok (.invokestatic 11, 3) := by decide +kernel
theorem d_Model_equal_53 : decode b_Model_equal 53 = .ok (.if_icmp .ne 90, 3) := by decide +kernel
theorem d_Model_equal_56 : decode b_Model_equal 56 = .ok (.lload 6, 2) := by decide +kernel
theorem d_Model_equal_58 : decode b_Model_equal 58 = .ok (.invokestatic 57, 3) := by decide +kernel
theorem d_Model_equal_61 : decode b_Model_equal 61 = .ok (.ifCond .eq 11, 3) := by decide +kernel
theorem d_Model_equal_64 : decode b_Model_equal 64 = .ok (.lload 6, 2) := by decide +kernel
theorem d_Model_equal_66 : decode b_Model_equal 66 = .ok (.lload 8, 2) := by decide +kernel
theorem d_Model_equal_68 : decode b_Model_equal 68 = .ok (.lcmp, 1) := by decide +kernel
theorem d_Model_equal_69 : decode b_Model_equal 69 = .ok (.ifCond .ne 74, 3) := by decide +kernel
theorem d_Model_equal_72 : decode b_Model_equal 72 = .ok (.lload 6, 2) := by decide +kernel
theorem d_Model_equal_74 : decode b_Model_equal 74 = .ok (.invokestatic 61, 3) := by decide +kernel
theorem d_Model_equal_77 : decode b_Model_equal 77 = .ok (.ifCond .eq 20, 3) := by decide +kernel
theorem d_Model_equal_80 : decode b_Model_equal 80 = .ok (.aload_n 0, 1) := by decide +kernel
theorem d_Model_equal_81 : decode b_Model_equal 81 = .ok (.lload 6, 2) := by decide +kernel
theorem d_Model_equal_83 : decode b_Model_equal 83 = .ok (.invokestatic 64, 3) := by decide +kernel
theorem d_Model_equal_86 : decode b_Model_equal 86 = .ok (.lload 8, 2) := by decide +kernel
theorem d_Model_equal_88 : decode b_Model_equal 88 = .ok (.invokestatic 64, 3) := by decide +kernel
theorem d_Model_equal_91 : decode b_Model_equal 91 = .ok (.invokevirtual 91, 3) := by decide +kernel
theorem d_Model_equal_94 : decode b_Model_equal 94 = .ok (.ifCond .eq 49, 3) := by decide +kernel
theorem d_Model_equal_97 : decode b_Model_equal 97 = .ok (.lload 6, 2) := by decide +kernel
theorem d_Model_equal_99 : decode b_Model_equal 99 = .ok (.invokestatic 95, 3) := by decide +kernel
theorem d_Model_equal_102 : decode b_Model_equal 102 = .ok (.ifCond .eq 43, 3) := by decide +kernel
theorem d_Model_equal_105 : decode b_Model_equal 105 = .ok (.aload_n 0, 1) := by decide +kernel
theorem d_Model_equal_106 : decode b_Model_equal 106 = .ok (.lload 6, 2) := by decide +kernel
theorem d_Model_equal_108 : decode b_Model_equal 108 = .ok (.invokevirtual 98, 3) := by decide +kernel
theorem d_Model_equal_111 : decode b_Model_equal 111 = .ok (.aload_n 0, 1) := by decide +kernel
theorem d_Model_equal_112 : decode b_Model_equal 112 = .ok (.lload 8, 2) := by decide +kernel
theorem d_Model_equal_114 : decode b_Model_equal 114 = .ok (.invokevirtual 98, 3) := by decide +kernel
theorem d_Model_equal_117 : decode b_Model_equal 117 = .ok (.if_icmp .ne 26, 3) := by decide +kernel
theorem d_Model_equal_120 : decode b_Model_equal 120 = .ok (.aload_n 0, 1) := by decide +kernel
theorem d_Model_equal_121 : decode b_Model_equal 121 = .ok (.getfield 50, 3) := by decide +kernel
theorem d_Model_equal_124 : decode b_Model_equal 124 = .ok (.lload 6, 2) := by decide +kernel
theorem d_Model_equal_126 : decode b_Model_equal 126 = .ok (.invokestatic 64, 3) := by decide +kernel
theorem d_Model_equal_129 : decode b_Model_equal 129 = .ok (.iaload, 1) := by decide +kernel
theorem d_Model_equal_130 : decode b_Model_equal 130 = .ok (.aload_n 0, 1) := by decide +kernel
theorem d_Model_equal_131 : decode b_Model_equal 131 = .ok (.getfield 50, 3) := by decide +kernel
theorem d_Model_equal_134 : decode b_Model_equal 134 = .ok (.lload 8, 2) := by decide +kernel
theorem d_Model_equal_136 : decode b_Model_equal 136 = .ok (.invokestatic 64, 3) := by decide +kernel
theorem d_Model_equal_139 : decode b_Model_equal 139 = .ok (.iaload, 1) := by decide +kernel
theorem d_Model_equal_140 : decode b_Model_equal 140 = .ok (.if_icmp .eq 5, 3) := by decide +kernel
theorem d_Model_equal_143 : decode b_Model_equal 143 = .ok (.iconst 0, 1) := by decide +kernel
theorem d_Model_equal_144 : decode b_Model_equal 144 = .ok (.ireturn, 1) := by decide +kernel
theorem d_Model_equal_145 : decode b_Model_equal 145 = .ok (.iconst 0, 1) := by decide +kernel
theorem d_Model_equal_146 : decode b_Model_equal 146 = .ok (.istore 10, 2) := by decide +kernel
theorem d_Model_equal_148 : decode b_Model_equal 148 = .ok (.lload 6, 2) := by decide +kernel
theorem d_Model_equal_150 : decode b_Model_equal 150 = .ok (.invokestatic 95, 3) := by decide +kernel
theorem d_Model_equal_153 : decode b_Model_equal 153 = .ok (.ifCond .eq 53, 3) := by decide +kernel
theorem d_Model_equal_156 : decode b_Model_equal 156 = .ok (.iload 10, 2) := by decide +kernel
theorem d_Model_equal_158 : decode b_Model_equal 158 = .ok (.aload_n 0, 1) := by decide +kernel
theorem d_Model_equal_159 : decode b_Model_equal 159 = .ok (.lload 6, 2) := by decide +kernel
theorem d_Model_equal_161 : decode b_Model_equal 161 = .ok (.invokevirtual 98, 3) := by decide +kernel
theorem d_Model_equal_164 : decode b_Model_equal 164 = .ok (.if_icmp .ge 42, 3) := by decide +kernel
theorem d_Model_equal_167 : decode b_Model_equal 167 = .ok (.aload_n 0, 1) := by decide +kernel
theorem d_Model_equal_168 : decode b_Model_equal 168 = .ok (.getfield 85, 3) := by decide +kernel
theorem d_Model_equal_171 : decode b_Model_equal 171 = .ok (.iload 5, 2) := by decide +kernel
theorem d_Model_equal_173 : decode b_Model_equal 173 = .ok (.aload_n 0, 1) := by decide +kernel
theorem d_Model_equal_174 : decode b_Model_equal 174 = .ok (.lload 6, 2) := by decide +kernel
theorem d_Model_equal_176 : decode b_Model_equal 176 = .ok (.iload 10, 2) := by decide +kernel
theorem d_Model_equal_178 : decode b_Model_equal 178 = .ok (.invokevirtual 101, 3) := by decide +kernel
theorem d_Model_equal_181 : decode b_Model_equal 181 = .ok (.lastore, 1) := by decide +kernel
theorem d_Model_equal_182 : decode b_Model_equal 182 = .ok (.aload_n 0, 1) := by decide +kernel
theorem d_Model_equal_183 : decode b_Model_equal 183 = .ok (.getfield 88, 3) := by decide +kernel
theorem d_Model_equal_186 : decode b_Model_equal 186 = .ok (.iload 5, 2) := by decide +kernel
theorem d_Model_equal_188 : decode b_Model_equal 188 = .ok (.aload_n 0, 1) := by decide +kernel
theorem d_Model_equal_189 : decode b_Model_equal 189 = .ok (.lload 8, 2) := by decide +kernel
theorem d_Model_equal_191 : decode b_Model_equal 191 = .ok (.iload 10, 2) := by decide +kernel
theorem d_Model_equal_193 : decode b_Model_equal 193 = .ok (.invokevirtual 101, 3) := by decide +kernel
theorem d_Model_equal_196 : decode b_Model_equal 196 = .ok (.lastore, 1) := by decide +kernel
theorem d_Model_equal_197 : decode b_Model_equal 197 = .ok (.iinc 5 1, 3) := by decide +kernel
theorem d_Model_equal_200 : decode b_Model_equal 200 = .ok (.iinc 10 1, 3) := by decide +kernel
theorem d_Model_equal_203 : decode b_Model_equal 203 = .ok (.goto (-55), 3) := by decide +kernel
theorem d_Model_equal_206 : decode b_Model_equal 206 = .ok (.goto (-189), 3) := by decide +kernel
theorem d_Model_equal_209 : decode b_Model_equal 209 = .ok (.iconst 1, 1) := by decide +kernel
theorem d_Model_equal_210 : decode b_Model_equal 210 = .ok (.ireturn, 1) := by decide +kernel
theorem lk_Model_95 : Cond.methodLink "TurtleWorldModel" 95 ⟨"TurtleWorldModel", "isList", "(J)Z"⟩ ∈ tw_T := tw_i11 1 (by decide +kernel) (by decide +kernel)
theorem hd_Model_isList : y_Model_isList.cls ≠ "java/lang/invoke/MethodHandle" ∧ y_Model_isList.cls ≠ "java/lang/invoke/VarHandle" ∧ (parseMethodDescriptor y_Model_isList.desc).map (fun d => d.parameters.length) = some 1 := by decide +kernel
theorem st_Model_isList : Cond.static ⟨"TurtleWorldModel", "isList", "(J)Z"⟩ ∈ tw_T := tw_i11 2 (by decide +kernel) (by decide +kernel)
theorem hd_Model_size : y_Model_size.cls ≠ "java/lang/invoke/MethodHandle" ∧ y_Model_size.cls ≠ "java/lang/invoke/VarHandle" ∧ (parseMethodDescriptor y_Model_size.desc).map (fun d => d.parameters.length) = some 1 := by decide +kernel
theorem lk_Model_101 : Cond.methodLink "TurtleWorldModel" 101 ⟨"TurtleWorldModel", "member", "(JI)J"⟩ ∈ tw_T := tw_i11 61 (by decide +kernel) (by decide +kernel)
theorem hd_Model_member : y_Model_member.cls ≠ "java/lang/invoke/MethodHandle" ∧ y_Model_member.cls ≠ "java/lang/invoke/VarHandle" ∧ (parseMethodDescriptor y_Model_member.desc).map (fun d => d.parameters.length) = some 2 := by decide +kernel
theorem in_Model_member : Cond.instanceMethod ⟨"TurtleWorldModel", "member", "(JI)J"⟩ ∈ tw_T := tw_i11 63 (by decide +kernel) (by decide +kernel)
theorem sel_Model_member : Cond.selects "TurtleWorldModel" ⟨"TurtleWorldModel", "member", "(JI)J"⟩ ⟨"TurtleWorldModel", "member", "(JI)J"⟩ ∈ tw_T := tw_inS 139 (by decide +kernel) (by decide +kernel)
theorem d_Model_sayFlat_0 : decode b_Model_sayFlat 0 = .ok (.lload_n 1, 1) := by decide +kernel
theorem d_Model_sayFlat_1 : decode b_Model_sayFlat 1 = .ok (.invokestatic 57, 3) := by decide +kernel
theorem d_Model_sayFlat_4 : decode b_Model_sayFlat 4 = .ok (.ifCond .eq 14, 3) := by decide +kernel
theorem d_Model_sayFlat_7 : decode b_Model_sayFlat 7 = .ok (.aload_n 0, 1) := by decide +kernel
theorem d_Model_sayFlat_8 : decode b_Model_sayFlat 8 = .ok (.lload_n 1, 1) := by decide +kernel
theorem d_Model_sayFlat_9 : decode b_Model_sayFlat 9 = .ok (.invokestatic 64, 3) := by decide +kernel
theorem d_Model_sayFlat_12 : decode b_Model_sayFlat 12 = .ok (.invokevirtual 121, 3) := by decide +kernel
theorem d_Model_sayFlat_15 : decode b_Model_sayFlat 15 = .ok (.goto 44, 3) := by decide +kernel
theorem d_Model_sayFlat_18 : decode b_Model_sayFlat 18 = .ok (.iconst 0, 1) := by decide +kernel
theorem d_Model_sayFlat_19 : decode b_Model_sayFlat 19 = .ok (.istore_n 3, 1) := by decide +kernel
theorem d_Model_sayFlat_20 : decode b_Model_sayFlat 20 = .ok (.iload_n 3, 1) := by decide +kernel
theorem d_Model_sayFlat_21 : decode b_Model_sayFlat 21 = .ok (.aload_n 0, 1) := by decide +kernel
theorem d_Model_sayFlat_22 : decode b_Model_sayFlat 22 = .ok (.getfield 22, 3) := by decide +kernel
theorem d_Model_sayFlat_25 : decode b_Model_sayFlat 25 = .ok (.lload_n 1, 1) := by decide +kernel
theorem d_Model_sayFlat_26 : decode b_Model_sayFlat 26 = .ok (.invokestatic 64, 3) := by decide +kernel
theorem d_Model_sayFlat_29 : decode b_Model_sayFlat 29 = .ok (.iaload, 1) := by decide +kernel
theorem d_Model_sayFlat_30 : decode b_Model_sayFlat 30 = .ok (.if_icmp .ge 29, 3) := by decide +kernel
theorem d_Model_sayFlat_33 : decode b_Model_sayFlat 33 = .ok (.aload_n 0, 1) := by decide +kernel
theorem d_Model_sayFlat_34 : decode b_Model_sayFlat 34 = .ok (.aload_n 0, 1) := by decide +kernel
theorem d_Model_sayFlat_35 : decode b_Model_sayFlat 35 = .ok (.getfield 67, 3) := by decide +kernel
theorem d_Model_sayFlat_38 : decode b_Model_sayFlat 38 = .ok (.aload_n 0, 1) := by decide +kernel
theorem d_Model_sayFlat_39 : decode b_Model_sayFlat 39 = .ok (.getfield 15, 3) := by decide +kernel
theorem d_Model_sayFlat_42 : decode b_Model_sayFlat 42 = .ok (.lload_n 1, 1) := by decide +kernel
theorem d_Model_sayFlat_43 : decode b_Model_sayFlat 43 = .ok (.invokestatic 64, 3) := by decide +kernel
theorem d_Model_sayFlat_46 : decode b_Model_sayFlat 46 = .ok (.iaload, 1) := by decide +kernel
theorem d_Model_sayFlat_47 : decode b_Model_sayFlat 47 = .ok (.iload_n 3, 1) := by decide +kernel
theorem d_Model_sayFlat_48 : decode b_Model_sayFlat 48 = .ok (.iadd, 1) := by decide +kernel
theorem d_Model_sayFlat_49 : decode b_Model_sayFlat 49 = .ok (.baload, 1) := by decide +kernel
theorem d_Model_sayFlat_50 : decode b_Model_sayFlat 50 = .ok (.invokevirtual 111, 3) := by decide +kernel
theorem d_Model_sayFlat_53 : decode b_Model_sayFlat 53 = .ok (.iinc 3 1, 3) := by decide +kernel
theorem d_Model_sayFlat_56 : decode b_Model_sayFlat 56 = .ok (.goto (-36), 3) := by decide +kernel
theorem d_Model_sayFlat_59 : decode b_Model_sayFlat 59 = .ok (.return_, 1) := by decide +kernel
theorem lk_Model_121 : Cond.methodLink "TurtleWorldModel" 121 ⟨"TurtleWorldModel", "sayNumber", "(I)V"⟩ ∈ tw_T := tw_i11 91 (by decide +kernel) (by decide +kernel)
theorem hd_Model_sayNumber : y_Model_sayNumber.cls ≠ "java/lang/invoke/MethodHandle" ∧ y_Model_sayNumber.cls ≠ "java/lang/invoke/VarHandle" ∧ (parseMethodDescriptor y_Model_sayNumber.desc).map (fun d => d.parameters.length) = some 1 := by decide +kernel
theorem in_Model_sayNumber : Cond.instanceMethod ⟨"TurtleWorldModel", "sayNumber", "(I)V"⟩ ∈ tw_T := tw_i11 93 (by decide +kernel) (by decide +kernel)
theorem sel_Model_sayNumber : Cond.selects "TurtleWorldModel" ⟨"TurtleWorldModel", "sayNumber", "(I)V"⟩ ⟨"TurtleWorldModel", "sayNumber", "(I)V"⟩ ∈ tw_T := tw_inS 146 (by decide +kernel) (by decide +kernel)
theorem d_Model_putAll_0 : decode b_Model_putAll 0 = .ok (.lload_n 1, 1) := by decide +kernel
theorem d_Model_putAll_1 : decode b_Model_putAll 1 = .ok (.invokestatic 95, 3) := by decide +kernel
theorem d_Model_putAll_4 : decode b_Model_putAll 4 = .ok (.ifCond .ne 9, 3) := by decide +kernel
theorem d_Model_putAll_7 : decode b_Model_putAll 7 = .ok (.aload_n 0, 1) := by decide +kernel
theorem d_Model_putAll_8 : decode b_Model_putAll 8 = .ok (.lload_n 1, 1) := by decide +kernel
theorem d_Model_putAll_9 : decode b_Model_putAll 9 = .ok (.invokevirtual 465, 3) := by decide +kernel
theorem d_Model_putAll_12 : decode b_Model_putAll 12 = .ok (.return_, 1) := by decide +kernel
theorem d_Model_putAll_13 : decode b_Model_putAll 13 = .ok (.iconst 0, 1) := by decide +kernel
theorem d_Model_putAll_14 : decode b_Model_putAll 14 = .ok (.istore_n 3, 1) := by decide +kernel
theorem d_Model_putAll_15 : decode b_Model_putAll 15 = .ok (.iload_n 3, 1) := by decide +kernel
theorem d_Model_putAll_16 : decode b_Model_putAll 16 = .ok (.aload_n 0, 1) := by decide +kernel
theorem d_Model_putAll_17 : decode b_Model_putAll 17 = .ok (.lload_n 1, 1) := by decide +kernel
theorem d_Model_putAll_18 : decode b_Model_putAll 18 = .ok (.invokevirtual 98, 3) := by decide +kernel
theorem d_Model_putAll_21 : decode b_Model_putAll 21 = .ok (.if_icmp .ge 19, 3) := by decide +kernel
theorem d_Model_putAll_24 : decode b_Model_putAll 24 = .ok (.aload_n 0, 1) := by decide +kernel
theorem d_Model_putAll_25 : decode b_Model_putAll 25 = .ok (.aload_n 0, 1) := by decide +kernel
theorem d_Model_putAll_26 : decode b_Model_putAll 26 = .ok (.lload_n 1, 1) := by decide +kernel
theorem d_Model_putAll_27 : decode b_Model_putAll 27 = .ok (.iload_n 3, 1) := by decide +kernel
theorem d_Model_putAll_28 : decode b_Model_putAll 28 = .ok (.invokevirtual 101, 3) := by decide +kernel
theorem d_Model_putAll_31 : decode b_Model_putAll 31 = .ok (.invokevirtual 465, 3) := by decide +kernel
theorem d_Model_putAll_34 : decode b_Model_putAll 34 = .ok (.iinc 3 1, 3) := by decide +kernel
theorem d_Model_putAll_37 : decode b_Model_putAll 37 = .ok (.goto (-22), 3) := by decide +kernel
theorem d_Model_putAll_40 : decode b_Model_putAll 40 = .ok (.return_, 1) := by decide +kernel
theorem lk_Model_465 : Cond.methodLink "TurtleWorldModel" 465 ⟨"TurtleWorldModel", "put", "(J)V"⟩ ∈ tw_T := tw_i10 99 (by decide +kernel) (by decide +kernel)
theorem hd_Model_put : y_Model_put.cls ≠ "java/lang/invoke/MethodHandle" ∧ y_Model_put.cls ≠ "java/lang/invoke/VarHandle" ∧ (parseMethodDescriptor y_Model_put.desc).map (fun d => d.parameters.length) = some 1 := by decide +kernel
theorem in_Model_put : Cond.instanceMethod ⟨"TurtleWorldModel", "put", "(J)V"⟩ ∈ tw_T := tw_i10 101 (by decide +kernel) (by decide +kernel)
theorem sel_Model_put : Cond.selects "TurtleWorldModel" ⟨"TurtleWorldModel", "put", "(J)V"⟩ ⟨"TurtleWorldModel", "put", "(J)V"⟩ ∈ tw_T := tw_inS 105 (by decide +kernel) (by decide +kernel)
theorem d_Model_local_0 : decode b_Model_local 0 = .ok (.aload_n 0, 1) := by decide +kernel
theorem d_Model_local_1 : decode b_Model_local 1 = .ok (.getfield 538, 3) := by decide +kernel
theorem d_Model_local_4 : decode b_Model_local 4 = .ok (.ifCond .ne 10, 3) := by decide +kernel
theorem d_Model_local_7 : decode b_Model_local 7 = .ok (.aload_n 0, 1) := by decide +kernel
theorem d_Model_local_8 : decode b_Model_local 8 = .ok (.bipush 12, 2) := by decide +kernel
theorem d_Model_local_10 : decode b_Model_local 10 = .ok (.invokevirtual 596, 3) := by decide +kernel
theorem d_Model_local_13 : decode b_Model_local 13 = .ok (.lreturn, 1) := by decide +kernel
theorem d_Model_local_14 : decode b_Model_local 14 = .ok (.aload_n 0, 1) := by decide +kernel
theorem d_Model_local_15 : decode b_Model_local 15 = .ok (.getfield 538, 3) := by decide +kernel
theorem d_Model_local_18 : decode b_Model_local 18 = .ok (.iconst 1, 1) := by decide +kernel
theorem d_Model_local_19 : decode b_Model_local 19 = .ok (.isub, 1) := by decide +kernel
theorem d_Model_local_20 : decode b_Model_local 20 = .ok (.istore_n 3, 1) := by decide +kernel
theorem d_Model_local_21 : decode b_Model_local 21 = .ok (.bipush 12, 2) := by decide +kernel
theorem d_Model_local_23 : decode b_Model_local 23 = .ok (.iload_n 3, 1) := by decide +kernel
theorem d_Model_local_24 : decode b_Model_local 24 = .ok (.imul, 1) := by decide +kernel
theorem d_Model_local_25 : decode b_Model_local 25 = .ok (.istore 4, 2) := by decide +kernel
theorem d_Model_local_27 : decode b_Model_local 27 = .ok (.iload 4, 2) := by decide +kernel
theorem d_Model_local_29 : decode b_Model_local 29 = .ok (.bipush 12, 2) := by decide +kernel
theorem d_Model_local_31 : decode b_Model_local 31 = .ok (.iload_n 3, 1) := by decide +kernel
theorem d_Model_local_32 : decode b_Model_local 32 = .ok (.imul, 1) := by decide +kernel
theorem d_Model_local_33 : decode b_Model_local 33 = .ok (.aload_n 0, 1) := by decide +kernel
theorem d_Model_local_34 : decode b_Model_local 34 = .ok (.getfield 307, 3) := by decide +kernel
theorem d_Model_local_37 : decode b_Model_local 37 = .ok (.iload_n 3, 1) := by decide +kernel
theorem d_Model_local_38 : decode b_Model_local 38 = .ok (.iaload, 1) := by decide +kernel
theorem d_Model_local_39 : decode b_Model_local 39 = .ok (.iadd, 1) := by decide +kernel
theorem d_Model_local_40 : decode b_Model_local 40 = .ok (.if_icmp .ge 31, 3) := by decide +kernel
theorem d_Model_local_43 : decode b_Model_local 43 = .ok (.aload_n 0, 1) := by decide +kernel
theorem d_Model_local_44 : decode b_Model_local 44 = .ok (.aload_n 0, 1) := by decide +kernel
theorem d_Model_local_45 : decode b_Model_local 45 = .ok (.getfield 310, 3) := by decide +kernel
theorem d_Model_local_48 : decode b_Model_local 48 = .ok (.iload 4, 2) := by decide +kernel
theorem d_Model_local_50 : decode b_Model_local 50 = .ok (.iaload, 1) := by decide +kernel
theorem d_Model_local_51 : decode b_Model_local 51 = .ok (.lload_n 1, 1) := by decide +kernel
theorem d_Model_local_52 : decode b_Model_local 52 = .ok (.invokestatic 64, 3) := by decide +kernel
theorem d_Model_local_55 : decode b_Model_local 55 = .ok (.invokevirtual 91, 3) := by decide +kernel
theorem d_Model_local_58 : decode b_Model_local 58 = .ok (.ifCond .eq 7, 3) := by decide +kernel
theorem d_Model_local_61 : decode b_Model_local 61 = .ok (.ldc2_w 7, 3) := by decide +kernel
theorem d_Model_local_64 : decode b_Model_local 64 = .ok (.lreturn, 1) := by decide +kernel
theorem d_Model_local_65 : decode b_Model_local 65 = .ok (.iinc 4 1, 3) := by decide +kernel
theorem d_Model_local_68 : decode b_Model_local 68 = .ok (.goto (-41), 3) := by decide +kernel
theorem d_Model_local_71 : decode b_Model_local 71 = .ok (.aload_n 0, 1) := by decide +kernel
theorem d_Model_local_72 : decode b_Model_local 72 = .ok (.getfield 307, 3) := by decide +kernel
theorem d_Model_local_75 : decode b_Model_local 75 = .ok (.iload_n 3, 1) := by decide +kernel
theorem d_Model_local_76 : decode b_Model_local 76 = .ok (.iaload, 1) := by decide +kernel
theorem d_Model_local_77 : decode b_Model_local 77 = .ok (.bipush 12, 2) := by decide +kernel
theorem d_Model_local_79 : decode b_Model_local 79 = .ok (.if_icmp .ne 10, 3) := by decide +kernel
theorem d_Model_local_82 : decode b_Model_local 82 = .ok (.aload_n 0, 1) := by decide +kernel
theorem d_Model_local_83 : decode b_Model_local 83 = .ok (.bipush 8, 2) := by decide +kernel
theorem d_Model_local_85 : decode b_Model_local 85 = .ok (.invokevirtual 596, 3) := by decide +kernel
theorem d_Model_local_88 : decode b_Model_local 88 = .ok (.lreturn, 1) := by decide +kernel
theorem d_Model_local_89 : decode b_Model_local 89 = .ok (.aload_n 0, 1) := by decide +kernel
theorem d_Model_local_90 : decode b_Model_local 90 = .ok (.getfield 310, 3) := by decide +kernel
theorem d_Model_local_93 : decode b_Model_local 93 = .ok (.bipush 12, 2) := by decide +kernel
theorem d_Model_local_95 : decode b_Model_local 95 = .ok (.iload_n 3, 1) := by decide +kernel
theorem d_Model_local_96 : decode b_Model_local 96 = .ok (.imul, 1) := by decide +kernel
theorem d_Model_local_97 : decode b_Model_local 97 = .ok (.aload_n 0, 1) := by decide +kernel
theorem d_Model_local_98 : decode b_Model_local 98 = .ok (.getfield 307, 3) := by decide +kernel
theorem d_Model_local_101 : decode b_Model_local 101 = .ok (.iload_n 3, 1) := by decide +kernel
theorem d_Model_local_102 : decode b_Model_local 102 = .ok (.iaload, 1) := by decide +kernel
theorem d_Model_local_103 : decode b_Model_local 103 = .ok (.iadd, 1) := by decide +kernel
theorem d_Model_local_104 : decode b_Model_local 104 = .ok (.lload_n 1, 1) := by decide +kernel
theorem d_Model_local_105 : decode b_Model_local 105 = .ok (.invokestatic 64, 3) := by decide +kernel
theorem d_Model_local_108 : decode b_Model_local 108 = .ok (.iastore, 1) := by decide +kernel
theorem d_Model_local_109 : decode b_Model_local 109 = .ok (.aload_n 0, 1) := by decide +kernel
theorem d_Model_local_110 : decode b_Model_local 110 = .ok (.getfield 313, 3) := by decide +kernel
theorem d_Model_local_113 : decode b_Model_local 113 = .ok (.bipush 12, 2) := by decide +kernel
theorem d_Model_local_115 : decode b_Model_local 115 = .ok (.iload_n 3, 1) := by decide +kernel
theorem d_Model_local_116 : decode b_Model_local 116 = .ok (.imul, 1) := by decide +kernel
theorem d_Model_local_117 : decode b_Model_local 117 = .ok (.aload_n 0, 1) := by decide +kernel
theorem d_Model_local_118 : decode b_Model_local 118 = .ok (.getfield 307, 3) := by decide +kernel
theorem d_Model_local_121 : decode b_Model_local 121 = .ok (.iload_n 3, 1) := by decide +kernel
theorem d_Model_local_122 : decode b_Model_local 122 = .ok (.iaload, 1) := by decide +kernel
theorem d_Model_local_123 : decode b_Model_local 123 = .ok (.iadd, 1) := by decide +kernel
theorem d_Model_local_124 : decode b_Model_local 124 = .ok (.ldc2_w 7, 3) := by decide +kernel
theorem d_Model_local_127 : decode b_Model_local 127 = .ok (.lastore, 1) := by decide +kernel
theorem d_Model_local_128 : decode b_Model_local 128 = .ok (.aload_n 0, 1) := by decide +kernel
theorem d_Model_local_129 : decode b_Model_local 129 = .ok (.getfield 307, 3) := by decide +kernel
theorem d_Model_local_132 : decode b_Model_local 132 = .ok (.iload_n 3, 1) := by decide +kernel
theorem d_Model_local_133 : decode b_Model_local 133 = .ok (.dup2, 1) := by decide +kernel
theorem d_Model_local_134 : decode b_Model_local 134 = .ok (.iaload, 1) := by decide +kernel
theorem d_Model_local_135 : decode b_Model_local 135 = .ok (.iconst 1, 1) := by decide +kernel
theorem d_Model_local_136 : decode b_Model_local 136 = .ok (.iadd, 1) := by decide +kernel
theorem d_Model_local_137 : decode b_Model_local 137 = .ok (.iastore, 1) := by decide +kernel
theorem d_Model_local_138 : decode b_Model_local 138 = .ok (.ldc2_w 7, 3) := by decide +kernel
theorem d_Model_local_141 : decode b_Model_local 141 = .ok (.lreturn, 1) := by decide +kernel
theorem d_Model_throwing_0 : decode b_Model_throwing 0 = .ok (.iconst 0, 1) := by decide +kernel
theorem d_Model_throwing_1 : decode b_Model_throwing 1 = .ok (.istore_n 3, 1) := by decide +kernel
theorem d_Model_throwing_2 : decode b_Model_throwing 2 = .ok (.iload_n 3, 1) := by decide +kernel
theorem d_Model_throwing_3 : decode b_Model_throwing 3 = .ok (.aload_n 0, 1) := by decide +kernel
theorem d_Model_throwing_4 : decode b_Model_throwing 4 = .ok (.getfield 571, 3) := by decide +kernel
theorem d_Model_throwing_7 : decode b_Model_throwing 7 = .ok (.if_icmp .ge 43, 3) := by decide +kernel
theorem d_Model_throwing_10 : decode b_Model_throwing 10 = .ok (.aload_n 0, 1) := by decide +kernel
theorem d_Model_throwing_11 : decode b_Model_throwing 11 = .ok (.aload_n 0, 1) := by decide +kernel
theorem d_Model_throwing_12 : decode b_Model_throwing 12 = .ok (.getfield 328, 3) := by decide +kernel
theorem d_Model_throwing_15 : decode b_Model_throwing 15 = .ok (.iload_n 3, 1) := by decide +kernel
theorem d_Model_throwing_16 : decode b_Model_throwing 16 = .ok (.laload, 1) := by decide +kernel
theorem d_Model_throwing_17 : decode b_Model_throwing 17 = .ok (.invokestatic 64, 3) := by decide +kernel
theorem d_Model_throwing_20 : decode b_Model_throwing 20 = .ok (.lload_n 1, 1) := by decide +kernel
theorem d_Model_throwing_21 : decode b_Model_throwing 21 = .ok (.invokestatic 64, 3) := by decide +kernel
theorem d_Model_throwing_24 : decode b_Model_throwing 24 = .ok (.invokevirtual 91, 3) := by decide +kernel
theorem d_Model_throwing_27 : decode b_Model_throwing 27 = .ok (.ifCond .eq 17, 3) := by decide +kernel
theorem d_Model_throwing_30 : decode b_Model_throwing 30 = .ok (.aload_n 0, 1) := by decide +kernel
theorem d_Model_throwing_31 : decode b_Model_throwing 31 = .ok (.iconst 3, 1) := by decide +kernel
theorem d_Model_throwing_32 : decode b_Model_throwing 32 = .ok (.putfield 559, 3) := by decide +kernel
theorem d_Model_throwing_35 : decode b_Model_throwing 35 = .ok (.aload_n 0, 1) := by decide +kernel
theorem d_Model_throwing_36 : decode b_Model_throwing 36 = .ok (.lload_n 1, 1) := by decide +kernel
theorem d_Model_throwing_37 : decode b_Model_throwing 37 = .ok (.putfield 655, 3) := by decide +kernel
theorem d_Model_throwing_40 : decode b_Model_throwing 40 = .ok (.ldc2_w 7, 3) := by decide +kernel
theorem d_Model_throwing_43 : decode b_Model_throwing 43 = .ok (.lreturn, 1) := by decide +kernel
theorem d_Model_throwing_44 : decode b_Model_throwing 44 = .ok (.iinc 3 1, 3) := by decide +kernel
theorem d_Model_throwing_47 : decode b_Model_throwing 47 = .ok (.goto (-45), 3) := by decide +kernel
theorem d_Model_throwing_50 : decode b_Model_throwing 50 = .ok (.aload_n 0, 1) := by decide +kernel
theorem d_Model_throwing_51 : decode b_Model_throwing 51 = .ok (.bipush 11, 2) := by decide +kernel
theorem d_Model_throwing_53 : decode b_Model_throwing 53 = .ok (.invokevirtual 596, 3) := by decide +kernel
theorem d_Model_throwing_56 : decode b_Model_throwing 56 = .ok (.lreturn, 1) := by decide +kernel
theorem lk_Model_655 : Cond.fieldLink "TurtleWorldModel" 655 "TurtleWorldModel" "thrownTag" "J" ∈ tw_T := tw_i8 187 (by decide +kernel) (by decide +kernel)
theorem d_Model_signAhead_0 : decode b_Model_signAhead 0 = .ok (.aload_n 0, 1) := by decide +kernel
theorem d_Model_signAhead_1 : decode b_Model_signAhead 1 = .ok (.getfield 590, 3) := by decide +kernel
theorem d_Model_signAhead_4 : decode b_Model_signAhead 4 = .ok (.aload_n 0, 1) := by decide +kernel
theorem d_Model_signAhead_5 : decode b_Model_signAhead 5 = .ok (.getfield 47, 3) := by decide +kernel
theorem d_Model_signAhead_8 : decode b_Model_signAhead 8 = .ok (.aload_n 0, 1) := by decide +kernel
theorem d_Model_signAhead_9 : decode b_Model_signAhead 9 = .ok (.getfield 587, 3) := by decide +kernel
theorem d_Model_signAhead_12 : decode b_Model_signAhead 12 = .ok (.iaload, 1) := by decide +kernel
theorem d_Model_signAhead_13 : decode b_Model_signAhead 13 = .ok (.if_icmp .lt 5, 3) := by decide +kernel
theorem d_Model_signAhead_16 : decode b_Model_signAhead 16 = .ok (.iconst 0, 1) := by decide +kernel
theorem d_Model_signAhead_17 : decode b_Model_signAhead 17 = .ok (.ireturn, 1) := by decide +kernel
theorem d_Model_signAhead_18 : decode b_Model_signAhead 18 = .ok (.aload_n 0, 1) := by decide +kernel
theorem d_Model_signAhead_19 : decode b_Model_signAhead 19 = .ok (.getfield 35, 3) := by decide +kernel
theorem d_Model_signAhead_22 : decode b_Model_signAhead 22 = .ok (.aload_n 0, 1) := by decide +kernel
theorem d_Model_signAhead_23 : decode b_Model_signAhead 23 = .ok (.getfield 41, 3) := by decide +kernel
theorem d_Model_signAhead_26 : decode b_Model_signAhead 26 = .ok (.aload_n 0, 1) := by decide +kernel
theorem d_Model_signAhead_27 : decode b_Model_signAhead 27 = .ok (.getfield 587, 3) := by decide +kernel
theorem d_Model_signAhead_30 : decode b_Model_signAhead 30 = .ok (.iaload, 1) := by decide +kernel
theorem d_Model_signAhead_31 : decode b_Model_signAhead 31 = .ok (.aload_n 0, 1) := by decide +kernel
theorem d_Model_signAhead_32 : decode b_Model_signAhead 32 = .ok (.getfield 590, 3) := by decide +kernel
theorem d_Model_signAhead_35 : decode b_Model_signAhead 35 = .ok (.iadd, 1) := by decide +kernel
theorem d_Model_signAhead_36 : decode b_Model_signAhead 36 = .ok (.laload, 1) := by decide +kernel
theorem d_Model_signAhead_37 : decode b_Model_signAhead 37 = .ok (.lstore_n 2, 1) := by decide +kernel
theorem d_Model_signAhead_38 : decode b_Model_signAhead 38 = .ok (.lload_n 2, 1) := by decide +kernel
theorem d_Model_signAhead_39 : decode b_Model_signAhead 39 = .ok (.invokestatic 61, 3) := by decide +kernel
theorem d_Model_signAhead_42 : decode b_Model_signAhead 42 = .ok (.ifCond .eq 16, 3) := by decide +kernel
theorem d_Model_signAhead_45 : decode b_Model_signAhead 45 = .ok (.aload_n 0, 1) := by decide +kernel
theorem d_Model_signAhead_46 : decode b_Model_signAhead 46 = .ok (.getfield 22, 3) := by decide +kernel
theorem d_Model_signAhead_49 : decode b_Model_signAhead 49 = .ok (.lload_n 2, 1) := by decide +kernel
theorem d_Model_signAhead_50 : decode b_Model_signAhead 50 = .ok (.invokestatic 64, 3) := by decide +kernel
theorem d_Model_signAhead_53 : decode b_Model_signAhead 53 = .ok (.iaload, 1) := by decide +kernel
theorem d_Model_signAhead_54 : decode b_Model_signAhead 54 = .ok (.iconst 1, 1) := by decide +kernel
theorem d_Model_signAhead_55 : decode b_Model_signAhead 55 = .ok (.if_icmp .eq 5, 3) := by decide +kernel
theorem d_Model_signAhead_58 : decode b_Model_signAhead 58 = .ok (.iconst 0, 1) := by decide +kernel
theorem d_Model_signAhead_59 : decode b_Model_signAhead 59 = .ok (.ireturn, 1) := by decide +kernel
theorem d_Model_signAhead_60 : decode b_Model_signAhead 60 = .ok (.aload_n 0, 1) := by decide +kernel
theorem d_Model_signAhead_61 : decode b_Model_signAhead 61 = .ok (.getfield 67, 3) := by decide +kernel
theorem d_Model_signAhead_64 : decode b_Model_signAhead 64 = .ok (.aload_n 0, 1) := by decide +kernel
theorem d_Model_signAhead_65 : decode b_Model_signAhead 65 = .ok (.getfield 15, 3) := by decide +kernel
theorem d_Model_signAhead_68 : decode b_Model_signAhead 68 = .ok (.lload_n 2, 1) := by decide +kernel
theorem d_Model_signAhead_69 : decode b_Model_signAhead 69 = .ok (.invokestatic 64, 3) := by decide +kernel
theorem d_Model_signAhead_72 : decode b_Model_signAhead 72 = .ok (.iaload, 1) := by decide +kernel
theorem d_Model_signAhead_73 : decode b_Model_signAhead 73 = .ok (.baload, 1) := by decide +kernel
theorem d_Model_signAhead_74 : decode b_Model_signAhead 74 = .ok (.istore 4, 2) := by decide +kernel
theorem d_Model_signAhead_76 : decode b_Model_signAhead 76 = .ok (.iload 4, 2) := by decide +kernel
theorem d_Model_signAhead_78 : decode b_Model_signAhead 78 = .ok (.bipush 61, 2) := by decide +kernel
theorem d_Model_signAhead_80 : decode b_Model_signAhead 80 = .ok (.if_icmp .eq 17, 3) := by decide +kernel
theorem d_Model_signAhead_83 : decode b_Model_signAhead 83 = .ok (.iload 4, 2) := by decide +kernel
theorem d_Model_signAhead_85 : decode b_Model_signAhead 85 = .ok (.bipush 60, 2) := by decide +kernel
theorem d_Model_signAhead_87 : decode b_Model_signAhead 87 = .ok (.if_icmp .eq 10, 3) := by decide +kernel
theorem d_Model_signAhead_90 : decode b_Model_signAhead 90 = .ok (.iload 4, 2) := by decide +kernel
theorem d_Model_signAhead_92 : decode b_Model_signAhead 92 = .ok (.bipush 62, 2) := by decide +kernel
theorem d_Model_signAhead_94 : decode b_Model_signAhead 94 = .ok (.if_icmp .ne 7, 3) := by decide +kernel
theorem d_Model_signAhead_97 : decode b_Model_signAhead 97 = .ok (.iconst 1, 1) := by decide +kernel
theorem d_Model_signAhead_98 : decode b_Model_signAhead 98 = .ok (.goto 40, 3) := by decide +kernel
theorem d_Model_signAhead_101 : decode b_Model_signAhead 101 = .ok (.iload 4, 2) := by decide +kernel
theorem d_Model_signAhead_103 : decode b_Model_signAhead 103 = .ok (.bipush 43, 2) := by decide +kernel
theorem d_Model_signAhead_105 : decode b_Model_signAhead 105 = .ok (.if_icmp .eq 10, 3) := by decide +kernel
theorem d_Model_signAhead_108 : decode b_Model_signAhead 108 = .ok (.iload 4, 2) := by decide +kernel
theorem d_Model_signAhead_110 : decode b_Model_signAhead 110 = .ok (.bipush 45, 2) := by decide +kernel
theorem d_Model_signAhead_112 : decode b_Model_signAhead 112 = .ok (.if_icmp .ne 7, 3) := by decide +kernel
theorem d_Model_signAhead_115 : decode b_Model_signAhead 115 = .ok (.iconst 2, 1) := by decide +kernel
theorem d_Model_signAhead_116 : decode b_Model_signAhead 116 = .ok (.goto 22, 3) := by decide +kernel
theorem d_Model_signAhead_119 : decode b_Model_signAhead 119 = .ok (.iload 4, 2) := by decide +kernel
theorem d_Model_signAhead_121 : decode b_Model_signAhead 121 = .ok (.bipush 42, 2) := by decide +kernel
theorem d_Model_signAhead_123 : decode b_Model_signAhead 123 = .ok (.if_icmp .eq 10, 3) := by decide +kernel
theorem d_Model_signAhead_126 : decode b_Model_signAhead 126 = .ok (.iload 4, 2) := by decide +kernel
theorem d_Model_signAhead_128 : decode b_Model_signAhead 128 = .ok (.bipush 47, 2) := by decide +kernel
theorem d_Model_signAhead_130 : decode b_Model_signAhead 130 = .ok (.if_icmp .ne 7, 3) := by decide +kernel
theorem d_Model_signAhead_133 : decode b_Model_signAhead 133 = .ok (.iconst 3, 1) := by decide +kernel
theorem d_Model_signAhead_134 : decode b_Model_signAhead 134 = .ok (.goto 4, 3) := by decide +kernel
theorem d_Model_signAhead_137 : decode b_Model_signAhead 137 = .ok (.iconst 0, 1) := by decide +kernel
theorem d_Model_signAhead_138 : decode b_Model_signAhead 138 = .ok (.istore 5, 2) := by decide +kernel
theorem d_Model_signAhead_140 : decode b_Model_signAhead 140 = .ok (.iload 5, 2) := by decide +kernel
theorem d_Model_signAhead_142 : decode b_Model_signAhead 142 = .ok (.iload_n 1, 1) := by decide +kernel
theorem d_Model_signAhead_143 : decode b_Model_signAhead 143 = .ok (.if_icmp .le 8, 3) := by decide +kernel
theorem d_Model_signAhead_146 : decode b_Model_signAhead 146 = .ok (.iload 5, 2) := by decide +kernel
theorem d_Model_signAhead_148 : decode b_Model_signAhead 148 = .ok (.goto 4, 3) := by decide +kernel
theorem d_Model_signAhead_151 : decode b_Model_signAhead 151 = .ok (.iconst 0, 1) := by decide +kernel
theorem d_Model_signAhead_152 : decode b_Model_signAhead 152 = .ok (.ireturn, 1) := by decide +kernel
theorem d_Model_definition_0 : decode b_Model_definition 0 = .ok (.aload_n 0, 1) := by decide +kernel
theorem d_Model_definition_1 : decode b_Model_definition 1 = .ok (.getfield 276, 3) := by decide +kernel
theorem d_Model_definition_4 : decode b_Model_definition 4 = .ok (.iload_n 1, 1) := by decide +kernel
theorem d_Model_definition_5 : decode b_Model_definition 5 = .ok (.laload, 1) := by decide +kernel
theorem d_Model_definition_6 : decode b_Model_definition 6 = .ok (.invokestatic 61, 3) := by decide +kernel
theorem d_Model_definition_9 : decode b_Model_definition 9 = .ok (.ifCond .eq 24, 3) := by decide +kernel
theorem d_Model_definition_12 : decode b_Model_definition 12 = .ok (.aload_n 0, 1) := by decide +kernel
theorem d_Model_definition_13 : decode b_Model_definition 13 = .ok (.getfield 276, 3) := by decide +kernel
theorem d_Model_definition_16 : decode b_Model_definition 16 = .ok (.iload_n 1, 1) := by decide +kernel
theorem d_Model_definition_17 : decode b_Model_definition 17 = .ok (.laload, 1) := by decide +kernel
theorem d_Model_definition_18 : decode b_Model_definition 18 = .ok (.ldc2_w 7, 3) := by decide +kernel
theorem d_Model_definition_21 : decode b_Model_definition 21 = .ok (.lcmp, 1) := by decide +kernel
theorem d_Model_definition_22 : decode b_Model_definition 22 = .ok (.ifCond .eq 11, 3) := by decide +kernel
theorem d_Model_definition_25 : decode b_Model_definition 25 = .ok (.iload_n 2, 1) := by decide +kernel
theorem d_Model_definition_26 : decode b_Model_definition 26 = .ok (.ifCond .ne 7, 3) := by decide +kernel
theorem d_Model_definition_29 : decode b_Model_definition 29 = .ok (.iconst 1, 1) := by decide +kernel
theorem d_Model_definition_30 : decode b_Model_definition 30 = .ok (.goto 4, 3) := by decide +kernel
theorem d_Model_definition_33 : decode b_Model_definition 33 = .ok (.iconst 0, 1) := by decide +kernel
theorem d_Model_definition_34 : decode b_Model_definition 34 = .ok (.istore_n 3, 1) := by decide +kernel
theorem d_Model_definition_35 : decode b_Model_definition 35 = .ok (.iload_n 3, 1) := by decide +kernel
theorem d_Model_definition_36 : decode b_Model_definition 36 = .ok (.ifCond .eq 15, 3) := by decide +kernel
theorem d_Model_definition_39 : decode b_Model_definition 39 = .ok (.aload_n 0, 1) := by decide +kernel
theorem d_Model_definition_40 : decode b_Model_definition 40 = .ok (.getfield 276, 3) := by decide +kernel
theorem d_Model_definition_43 : decode b_Model_definition 43 = .ok (.iload_n 1, 1) := by decide +kernel
theorem d_Model_definition_44 : decode b_Model_definition 44 = .ok (.laload, 1) := by decide +kernel
theorem d_Model_definition_45 : decode b_Model_definition 45 = .ok (.invokestatic 64, 3) := by decide +kernel
theorem d_Model_definition_48 : decode b_Model_definition 48 = .ok (.goto 4, 3) := by decide +kernel
theorem d_Model_definition_51 : decode b_Model_definition 51 = .ok (.iconst 0, 1) := by decide +kernel
theorem d_Model_definition_52 : decode b_Model_definition 52 = .ok (.istore 4, 2) := by decide +kernel
theorem d_Model_definition_54 : decode b_Model_definition 54 = .ok (.aload_n 0, 1) := by decide +kernel
theorem d_Model_definition_55 : decode b_Model_definition 55 = .ok (.getfield 428, 3) := by decide +kernel
theorem d_Model_definition_58 : decode b_Model_definition 58 = .ok (.ifCond .ne 48, 3) := by decide +kernel
theorem d_Model_definition_61 : decode b_Model_definition 61 = .ok (.iload_n 1, 1) := by decide +kernel
theorem d_Model_definition_62 : decode b_Model_definition 62 = .ok (.ifCond .ne 8, 3) := by decide +kernel
theorem d_Model_definition_65 : decode b_Model_definition 65 = .ok (.aload_n 0, 1) := by decide +kernel
theorem d_Model_definition_66 : decode b_Model_definition 66 = .ok (.iconst 0, 1) := by decide +kernel
theorem d_Model_definition_67 : decode b_Model_definition 67 = .ok (.putfield 482, 3) := by decide +kernel
theorem d_Model_definition_70 : decode b_Model_definition 70 = .ok (.iload_n 3, 1) := by decide +kernel
theorem d_Model_definition_71 : decode b_Model_definition 71 = .ok (.ifCond .eq 15, 3) := by decide +kernel
theorem d_Model_definition_74 : decode b_Model_definition 74 = .ok (.aload_n 0, 1) := by decide +kernel
theorem d_Model_definition_75 : decode b_Model_definition 75 = .ok (.iload 4, 2) := by decide +kernel
theorem d_Model_definition_77 : decode b_Model_definition 77 = .ok (.ldc_w 471, 3) := by decide +kernel
theorem d_Model_definition_80 : decode b_Model_definition 80 = .ok (.invokevirtual 473, 3) := by decide +kernel
theorem d_Model_definition_83 : decode b_Model_definition 83 = .ok (.ifCond .ne 15, 3) := by decide +kernel
theorem d_Model_definition_86 : decode b_Model_definition 86 = .ok (.aload_n 0, 1) := by decide +kernel
theorem d_Model_definition_87 : decode b_Model_definition 87 = .ok (.bipush 7, 2) := by decide +kernel
theorem d_Model_definition_89 : decode b_Model_definition 89 = .ok (.aload_n 0, 1) := by decide +kernel
theorem d_Model_definition_90 : decode b_Model_definition 90 = .ok (.getfield 267, 3) := by decide +kernel
theorem d_Model_definition_93 : decode b_Model_definition 93 = .ok (.iload_n 1, 1) := by decide +kernel
theorem d_Model_definition_94 : decode b_Model_definition 94 = .ok (.iaload, 1) := by decide +kernel
theorem d_Model_definition_95 : decode b_Model_definition 95 = .ok (.invokevirtual 437, 3) := by decide +kernel
theorem d_Model_definition_98 : decode b_Model_definition 98 = .ok (.aload_n 0, 1) := by decide +kernel
theorem d_Model_definition_99 : decode b_Model_definition 99 = .ok (.iconst 1, 1) := by decide +kernel
theorem d_Model_definition_100 : decode b_Model_definition 100 = .ok (.putfield 428, 3) := by decide +kernel
theorem d_Model_definition_103 : decode b_Model_definition 103 = .ok (.goto 282, 3) := by decide +kernel
theorem d_Model_definition_106 : decode b_Model_definition 106 = .ok (.aload_n 0, 1) := by decide +kernel
theorem d_Model_definition_107 : decode b_Model_definition 107 = .ok (.getfield 428, 3) := by decide +kernel
theorem d_Model_definition_110 : decode b_Model_definition 110 = .ok (.iconst 1, 1) := by decide +kernel
theorem d_Model_definition_111 : decode b_Model_definition 111 = .ok (.if_icmp .ne 171, 3) := by decide +kernel
theorem d_Model_definition_114 : decode b_Model_definition 114 = .ok (.iload_n 3, 1) := by decide +kernel
theorem d_Model_definition_115 : decode b_Model_definition 115 = .ok (.ifCond .eq 12, 3) := by decide +kernel
theorem d_Model_definition_118 : decode b_Model_definition 118 = .ok (.aload_n 0, 1) := by decide +kernel
theorem d_Model_definition_119 : decode b_Model_definition 119 = .ok (.iload 4, 2) := by decide +kernel
theorem d_Model_definition_121 : decode b_Model_definition 121 = .ok (.invokevirtual 485, 3) := by decide +kernel
theorem d_Model_definition_124 : decode b_Model_definition 124 = .ok (.ifCond .ne 16, 3) := by decide +kernel
theorem d_Model_definition_127 : decode b_Model_definition 127 = .ok (.aload_n 0, 1) := by decide +kernel
theorem d_Model_definition_128 : decode b_Model_definition 128 = .ok (.bipush 8, 2) := by decide +kernel
theorem d_Model_definition_130 : decode b_Model_definition 130 = .ok (.aload_n 0, 1) := by decide +kernel
theorem d_Model_definition_131 : decode b_Model_definition 131 = .ok (.getfield 267, 3) := by decide +kernel
theorem d_Model_definition_134 : decode b_Model_definition 134 = .ok (.iload_n 1, 1) := by decide +kernel
theorem d_Model_definition_135 : decode b_Model_definition 135 = .ok (.iaload, 1) := by decide +kernel
theorem d_Model_definition_136 : decode b_Model_definition 136 = .ok (.invokevirtual 437, 3) := by decide +kernel
theorem d_Model_definition_139 : decode b_Model_definition 139 = .ok (.return_, 1) := by decide +kernel
theorem d_Model_definition_140 : decode b_Model_definition 140 = .ok (.aload_n 0, 1) := by decide +kernel
theorem d_Model_definition_141 : decode b_Model_definition 141 = .ok (.iload 4, 2) := by decide +kernel
theorem d_Model_definition_143 : decode b_Model_definition 143 = .ok (.invokevirtual 488, 3) := by decide +kernel
theorem d_Model_definition_146 : decode b_Model_definition 146 = .ok (.iconst (-1), 1) := by decide +kernel
theorem d_Model_definition_147 : decode b_Model_definition 147 = .ok (.if_icmp .ne 7, 3) := by decide +kernel
theorem d_Model_definition_150 : decode b_Model_definition 150 = .ok (.iconst 1, 1) := by decide +kernel
theorem d_Model_definition_151 : decode b_Model_definition 151 = .ok (.goto 4, 3) := by decide +kernel
theorem d_Model_definition_154 : decode b_Model_definition 154 = .ok (.iconst 0, 1) := by decide +kernel
theorem d_Model_definition_155 : decode b_Model_definition 155 = .ok (.istore 5, 2) := by decide +kernel
theorem d_Model_definition_157 : decode b_Model_definition 157 = .ok (.iconst 0, 1) := by decide +kernel
theorem d_Model_definition_158 : decode b_Model_definition 158 = .ok (.istore 6, 2) := by decide +kernel
theorem d_Model_definition_160 : decode b_Model_definition 160 = .ok (.iload 6, 2) := by decide +kernel
theorem d_Model_definition_162 : decode b_Model_definition 162 = .ok (.aload_n 0, 1) := by decide +kernel
theorem d_Model_definition_163 : decode b_Model_definition 163 = .ok (.getfield 482, 3) := by decide +kernel
theorem d_Model_definition_166 : decode b_Model_definition 166 = .ok (.if_icmp .ge 37, 3) := by decide +kernel
theorem d_Model_definition_169 : decode b_Model_definition 169 = .ok (.iload 5, 2) := by decide +kernel
theorem d_Model_definition_171 : decode b_Model_definition 171 = .ok (.ifCond .eq 23, 3) := by decide +kernel
theorem d_Model_definition_174 : decode b_Model_definition 174 = .ok (.aload_n 0, 1) := by decide +kernel
theorem d_Model_definition_175 : decode b_Model_definition 175 = .ok (.aload_n 0, 1) := by decide +kernel
theorem d_Model_definition_176 : decode b_Model_definition 176 = .ok (.getfield 285, 3) := by decide +kernel
theorem d_Model_definition_179 : decode b_Model_definition 179 = .ok (.iload 6, 2) := by decide +kernel
theorem d_Model_definition_181 : decode b_Model_definition 181 = .ok (.iaload, 1) := by decide +kernel
theorem d_Model_definition_182 : decode b_Model_definition 182 = .ok (.iload 4, 2) := by decide +kernel
theorem d_Model_definition_184 : decode b_Model_definition 184 = .ok (.invokevirtual 91, 3) := by decide +kernel
theorem d_Model_definition_187 : decode b_Model_definition 187 = .ok (.ifCond .ne 7, 3) := by decide +kernel
theorem d_Model_definition_190 : decode b_Model_definition 190 = .ok (.iconst 1, 1) := by decide +kernel
theorem d_Model_definition_191 : decode b_Model_definition 191 = .ok (.goto 4, 3) := by decide +kernel
theorem d_Model_definition_194 : decode b_Model_definition 194 = .ok (.iconst 0, 1) := by decide +kernel
theorem d_Model_definition_195 : decode b_Model_definition 195 = .ok (.istore 5, 2) := by decide +kernel
theorem d_Model_definition_197 : decode b_Model_definition 197 = .ok (.iinc 6 1, 3) := by decide +kernel
theorem d_Model_definition_200 : decode b_Model_definition 200 = .ok (.goto (-40), 3) := by decide +kernel
theorem d_Model_definition_203 : decode b_Model_definition 203 = .ok (.iload 5, 2) := by decide +kernel
theorem d_Model_definition_205 : decode b_Model_definition 205 = .ok (.ifCond .eq 29, 3) := by decide +kernel
theorem d_Model_definition_208 : decode b_Model_definition 208 = .ok (.aload_n 0, 1) := by decide +kernel
theorem d_Model_definition_209 : decode b_Model_definition 209 = .ok (.getfield 344, 3) := by decide +kernel
theorem d_Model_definition_212 : decode b_Model_definition 212 = .ok (.aload_n 0, 1) := by decide +kernel
theorem d_Model_definition_213 : decode b_Model_definition 213 = .ok (.getfield 431, 3) := by decide +kernel
theorem d_Model_definition_216 : decode b_Model_definition 216 = .ok (.iadd, 1) := by decide +kernel
theorem d_Model_definition_217 : decode b_Model_definition 217 = .ok (.bipush 40, 2) := by decide +kernel
theorem d_Model_definition_219 : decode b_Model_definition 219 = .ok (.if_icmp .ne 15, 3) := by decide +kernel
theorem d_Model_definition_222 : decode b_Model_definition 222 = .ok (.aload_n 0, 1) := by decide +kernel
theorem d_Model_definition_223 : decode b_Model_definition 223 = .ok (.bipush 11, 2) := by decide +kernel
theorem d_Model_definition_225 : decode b_Model_definition 225 = .ok (.aload_n 0, 1) := by decide +kernel
theorem d_Model_definition_226 : decode b_Model_definition 226 = .ok (.getfield 267, 3) := by decide +kernel
theorem d_Model_definition_229 : decode b_Model_definition 229 = .ok (.iload_n 1, 1) := by decide +kernel
theorem d_Model_definition_230 : decode b_Model_definition 230 = .ok (.iaload, 1) := by decide +kernel
theorem d_Model_definition_231 : decode b_Model_definition 231 = .ok (.invokevirtual 437, 3) := by decide +kernel
theorem d_Model_definition_234 : decode b_Model_definition 234 = .ok (.aload_n 0, 1) := by decide +kernel
theorem d_Model_definition_235 : decode b_Model_definition 235 = .ok (.dup, 1) := by decide +kernel
theorem d_Model_definition_236 : decode b_Model_definition 236 = .ok (.getfield 431, 3) := by decide +kernel
theorem d_Model_definition_239 : decode b_Model_definition 239 = .ok (.iload 5, 2) := by decide +kernel
theorem d_Model_definition_241 : decode b_Model_definition 241 = .ok (.ifCond .eq 7, 3) := by decide +kernel
theorem d_Model_definition_244 : decode b_Model_definition 244 = .ok (.iconst 1, 1) := by decide +kernel
theorem d_Model_definition_245 : decode b_Model_definition 245 = .ok (.goto 4, 3) := by decide +kernel
theorem d_Model_definition_248 : decode b_Model_definition 248 = .ok (.iconst 0, 1) := by decide +kernel
theorem d_Model_definition_249 : decode b_Model_definition 249 = .ok (.iadd, 1) := by decide +kernel
theorem d_Model_definition_250 : decode b_Model_definition 250 = .ok (.putfield 431, 3) := by decide +kernel
theorem d_Model_definition_253 : decode b_Model_definition 253 = .ok (.aload_n 0, 1) := by decide +kernel
theorem d_Model_definition_254 : decode b_Model_definition 254 = .ok (.getfield 285, 3) := by decide +kernel
theorem d_Model_definition_257 : decode b_Model_definition 257 = .ok (.aload_n 0, 1) := by decide +kernel
theorem d_Model_definition_258 : decode b_Model_definition 258 = .ok (.getfield 482, 3) := by decide +kernel
theorem d_Model_definition_261 : decode b_Model_definition 261 = .ok (.iload 4, 2) := by decide +kernel
theorem d_Model_definition_263 : decode b_Model_definition 263 = .ok (.iastore, 1) := by decide +kernel
theorem d_Model_definition_264 : decode b_Model_definition 264 = .ok (.aload_n 0, 1) := by decide +kernel
theorem d_Model_definition_265 : decode b_Model_definition 265 = .ok (.getfield 288, 3) := by decide +kernel
theorem d_Model_definition_268 : decode b_Model_definition 268 = .ok (.aload_n 0, 1) := by decide +kernel
theorem d_Model_definition_269 : decode b_Model_definition 269 = .ok (.getfield 482, 3) := by decide +kernel
theorem d_Model_definition_272 : decode b_Model_definition 272 = .ok (.iconst 0, 1) := by decide +kernel
theorem d_Model_definition_273 : decode b_Model_definition 273 = .ok (.iastore, 1) := by decide +kernel
theorem d_Model_definition_274 : decode b_Model_definition 274 = .ok (.aload_n 0, 1) := by decide +kernel
theorem d_Model_definition_275 : decode b_Model_definition 275 = .ok (.iconst 2, 1) := by decide +kernel
theorem d_Model_definition_276 : decode b_Model_definition 276 = .ok (.putfield 428, 3) := by decide +kernel
theorem d_Model_definition_279 : decode b_Model_definition 279 = .ok (.goto 106, 3) := by decide +kernel
theorem d_Model_definition_282 : decode b_Model_definition 282 = .ok (.aload_n 0, 1) := by decide +kernel
theorem d_Model_definition_283 : decode b_Model_definition 283 = .ok (.getfield 428, 3) := by decide +kernel
theorem d_Model_definition_286 : decode b_Model_definition 286 = .ok (.iconst 2, 1) := by decide +kernel
theorem d_Model_definition_287 : decode b_Model_definition 287 = .ok (.if_icmp .ne 34, 3) := by decide +kernel
theorem d_Model_definition_290 : decode b_Model_definition 290 = .ok (.iload_n 3, 1) := by decide +kernel
theorem d_Model_definition_291 : decode b_Model_definition 291 = .ok (.ifCond .eq 30, 3) := by decide +kernel
theorem d_Model_definition_294 : decode b_Model_definition 294 = .ok (.aload_n 0, 1) := by decide +kernel
theorem d_Model_definition_295 : decode b_Model_definition 295 = .ok (.getfield 67, 3) := by decide +kernel
theorem d_Model_definition_298 : decode b_Model_definition 298 = .ok (.aload_n 0, 1) := by decide +kernel
theorem d_Model_definition_299 : decode b_Model_definition 299 = .ok (.getfield 15, 3) := by decide +kernel
theorem d_Model_definition_302 : decode b_Model_definition 302 = .ok (.iload 4, 2) := by decide +kernel
theorem d_Model_definition_304 : decode b_Model_definition 304 = .ok (.iaload, 1) := by decide +kernel
theorem d_Model_definition_305 : decode b_Model_definition 305 = .ok (.baload, 1) := by decide +kernel
theorem d_Model_definition_306 : decode b_Model_definition 306 = .ok (.bipush 58, 2) := by decide +kernel
theorem d_Model_definition_308 : decode b_Model_definition 308 = .ok (.if_icmp .ne 13, 3) := by decide +kernel
theorem d_Model_definition_311 : decode b_Model_definition 311 = .ok (.aload_n 0, 1) := by decide +kernel
theorem d_Model_definition_312 : decode b_Model_definition 312 = .ok (.iload_n 1, 1) := by decide +kernel
theorem d_Model_definition_313 : decode b_Model_definition 313 = .ok (.iload 4, 2) := by decide +kernel
theorem d_Model_definition_315 : decode b_Model_definition 315 = .ok (.invokevirtual 491, 3) := by decide +kernel
theorem d_Model_definition_318 : decode b_Model_definition 318 = .ok (.goto 67, 3) := by decide +kernel
theorem d_Model_definition_321 : decode b_Model_definition 321 = .ok (.aload_n 0, 1) := by decide +kernel
theorem d_Model_definition_322 : decode b_Model_definition 322 = .ok (.getfield 428, 3) := by decide +kernel
theorem d_Model_definition_325 : decode b_Model_definition 325 = .ok (.iconst 2, 1) := by decide +kernel
theorem d_Model_definition_326 : decode b_Model_definition 326 = .ok (.if_icmp .ne 18, 3) := by decide +kernel
theorem d_Model_definition_329 : decode b_Model_definition 329 = .ok (.aload_n 0, 1) := by decide +kernel
theorem d_Model_definition_330 : decode b_Model_definition 330 = .ok (.getfield 294, 3) := by decide +kernel
theorem d_Model_definition_333 : decode b_Model_definition 333 = .ok (.aload_n 0, 1) := by decide +kernel
theorem d_Model_definition_334 : decode b_Model_definition 334 = .ok (.getfield 482, 3) := by decide +kernel
theorem d_Model_definition_337 : decode b_Model_definition 337 = .ok (.iload_n 1, 1) := by decide +kernel
theorem d_Model_definition_338 : decode b_Model_definition 338 = .ok (.iastore, 1) := by decide +kernel
theorem d_Model_definition_339 : decode b_Model_definition 339 = .ok (.aload_n 0, 1) := by decide +kernel
theorem d_Model_definition_340 : decode b_Model_definition 340 = .ok (.iconst 3, 1) := by decide +kernel
theorem d_Model_definition_341 : decode b_Model_definition 341 = .ok (.putfield 428, 3) := by decide +kernel
theorem d_Model_definition_344 : decode b_Model_definition 344 = .ok (.iload_n 3, 1) := by decide +kernel
theorem d_Model_definition_345 : decode b_Model_definition 345 = .ok (.ifCond .eq 40, 3) := by decide +kernel
theorem d_Model_definition_348 : decode b_Model_definition 348 = .ok (.aload_n 0, 1) := by decide +kernel
theorem d_Model_definition_349 : decode b_Model_definition 349 = .ok (.iload 4, 2) := by decide +kernel
theorem d_Model_definition_351 : decode b_Model_definition 351 = .ok (.ldc_w 477, 3) := by decide +kernel
theorem d_Model_definition_354 : decode b_Model_definition 354 = .ok (.invokevirtual 473, 3) := by decide +kernel
theorem d_Model_definition_357 : decode b_Model_definition 357 = .ok (.ifCond .eq 28, 3) := by decide +kernel
theorem d_Model_definition_360 : decode b_Model_definition 360 = .ok (.aload_n 0, 1) := by decide +kernel
theorem d_Model_definition_361 : decode b_Model_definition 361 = .ok (.getfield 297, 3) := by decide +kernel
theorem d_Model_definition_364 : decode b_Model_definition 364 = .ok (.aload_n 0, 1) := by decide +kernel
theorem d_Model_definition_365 : decode b_Model_definition 365 = .ok (.getfield 482, 3) := by decide +kernel
theorem d_Model_definition_368 : decode b_Model_definition 368 = .ok (.iload_n 1, 1) := by decide +kernel
theorem d_Model_definition_369 : decode b_Model_definition 369 = .ok (.iastore, 1) := by decide +kernel
theorem d_Model_definition_370 : decode b_Model_definition 370 = .ok (.aload_n 0, 1) := by decide +kernel
theorem d_Model_definition_371 : decode b_Model_definition 371 = .ok (.dup, 1) := by decide +kernel
theorem d_Model_definition_372 : decode b_Model_definition 372 = .ok (.getfield 482, 3) := by decide +kernel
theorem d_Model_definition_375 : decode b_Model_definition 375 = .ok (.iconst 1, 1) := by decide +kernel
theorem d_Model_definition_376 : decode b_Model_definition 376 = .ok (.iadd, 1) := by decide +kernel
theorem d_Model_definition_377 : decode b_Model_definition 377 = .ok (.putfield 482, 3) := by decide +kernel
theorem d_Model_definition_380 : decode b_Model_definition 380 = .ok (.aload_n 0, 1) := by decide +kernel
theorem d_Model_definition_381 : decode b_Model_definition 381 = .ok (.iconst 0, 1) := by decide +kernel
theorem d_Model_definition_382 : decode b_Model_definition 382 = .ok (.putfield 428, 3) := by decide +kernel
theorem d_Model_definition_385 : decode b_Model_definition 385 = .ok (.return_, 1) := by decide +kernel
theorem lk_Model_491 : Cond.methodLink "TurtleWorldModel" 491 ⟨"TurtleWorldModel", "input", "(II)V"⟩ ∈ tw_T := tw_i10 83 (by decide +kernel) (by decide +kernel)
theorem hd_Model_input : y_Model_input.cls ≠ "java/lang/invoke/MethodHandle" ∧ y_Model_input.cls ≠ "java/lang/invoke/VarHandle" ∧ (parseMethodDescriptor y_Model_input.desc).map (fun d => d.parameters.length) = some 2 := by decide +kernel
theorem in_Model_input : Cond.instanceMethod ⟨"TurtleWorldModel", "input", "(II)V"⟩ ∈ tw_T := tw_i10 85 (by decide +kernel) (by decide +kernel)
theorem sel_Model_input : Cond.selects "TurtleWorldModel" ⟨"TurtleWorldModel", "input", "(II)V"⟩ ⟨"TurtleWorldModel", "input", "(II)V"⟩ ∈ tw_T := tw_inS 101 (by decide +kernel) (by decide +kernel)
theorem lk_Model_485 : Cond.methodLink "TurtleWorldModel" 485 ⟨"TurtleWorldModel", "isName", "(I)Z"⟩ ∈ tw_T := tw_i10 61 (by decide +kernel) (by decide +kernel)
theorem hd_Model_isName : y_Model_isName.cls ≠ "java/lang/invoke/MethodHandle" ∧ y_Model_isName.cls ≠ "java/lang/invoke/VarHandle" ∧ (parseMethodDescriptor y_Model_isName.desc).map (fun d => d.parameters.length) = some 1 := by decide +kernel
theorem in_Model_isName : Cond.instanceMethod ⟨"TurtleWorldModel", "isName", "(I)Z"⟩ ∈ tw_T := tw_i10 63 (by decide +kernel) (by decide +kernel)
theorem sel_Model_isName : Cond.selects "TurtleWorldModel" ⟨"TurtleWorldModel", "isName", "(I)Z"⟩ ⟨"TurtleWorldModel", "isName", "(I)Z"⟩ ∈ tw_T := tw_inS 96 (by decide +kernel) (by decide +kernel)
theorem lk_Model_488 : Cond.methodLink "TurtleWorldModel" 488 ⟨"TurtleWorldModel", "procedureOf", "(I)I"⟩ ∈ tw_T := tw_i10 71 (by decide +kernel) (by decide +kernel)
theorem hd_Model_procedureOf : y_Model_procedureOf.cls ≠ "java/lang/invoke/MethodHandle" ∧ y_Model_procedureOf.cls ≠ "java/lang/invoke/VarHandle" ∧ (parseMethodDescriptor y_Model_procedureOf.desc).map (fun d => d.parameters.length) = some 1 := by decide +kernel
theorem in_Model_procedureOf : Cond.instanceMethod ⟨"TurtleWorldModel", "procedureOf", "(I)I"⟩ ∈ tw_T := tw_i10 73 (by decide +kernel) (by decide +kernel)
theorem sel_Model_procedureOf : Cond.selects "TurtleWorldModel" ⟨"TurtleWorldModel", "procedureOf", "(I)I"⟩ ⟨"TurtleWorldModel", "procedureOf", "(I)I"⟩ ∈ tw_T := tw_inS 98 (by decide +kernel) (by decide +kernel)
def m_Model_equal_b206 (n : Nat) (rc_17 : (Nat → Int32) → (Nat → Int64) → (Nat → Nat → Int32) → (Nat → Nat → Int64) → Int32 → Option ((Nat → Int32) × (Nat → Int64) × (Nat → Nat → Int32) × (Nat → Nat → Int64) × Int32)) (i : Nat → Int32) (j : Nat → Int64) (a : Nat → Nat → Int32) (b : Nat → Nat → Int64) (v5 : Int32) : Option ((Nat → Int32) × (Nat → Int64) × (Nat → Nat → Int32) × (Nat → Nat → Int64) × Int32) := rc_17 i j a b v5
set_option maxHeartbeats 4000000 in
set_option maxRecDepth 100000 in
theorem lb_Model_equal_206 (l : Launch) (dC : Nat → ClassId) (dI : Nat → Nat → Nat) (cI cJ cB : ClassId) (adK adV adA : Nat → Nat) (h : Nat) (v : Nat → Nat) (n : Nat) {p : Program} {e : Env} {s : State} {m : MethodId} {args : Array Value} {below : List Frame} {meth : Method} {c : Code} {A : Nat → Prop} (hx : p.tables.exec = Jvm.exec) (hb : c.code = b_Model_equal) (hml : c.maxLocals = 11) (hown : s.vm.findClass R_Model = some m.cls) (hts : ∀ w ∈ w_Model_equal, w.before args s = true) (hK : va_K (dC, dI) classes [(cI, .int), (cJ, .long), (cB, .byte)] s) (hE : tw_E adK adV adA A s s.heap) (hA : ∀ q : Nat, s.heap.size ≤ q → A q) (hr : meth.sig.returnType = (some .boolean)) (hlocks : meth.locks = false) {i2 : Nat → Int32} {j2 : Nat → Int64} {a2 : Nat → Nat → Int32} {b2 : Nat → Nat → Int64} {r2 : Int32} (rc_17 : (Nat → Int32) → (Nat → Int64) → (Nat → Nat → Int32) → (Nat → Nat → Int64) → Int32 → Option ((Nat → Int32) × (Nat → Int64) × (Nat → Nat → Int32) × (Nat → Nat → Int64) × Int32)) (Hrc_17 : ∀ (i : Nat → Int32) (j : Nat → Int64) (a : Nat → Nat → Int32) (b : Nat → Nat → Int64) (v5 : Int32), rc_17 i j a b v5 = some (i2, j2, a2, b2, r2) → ∀ (H : Heap) (locs : List Loc) (ls : Array Slot), va_P (dC, dI) classes (MW cI cJ cB h v i j a b) H → va_D A (MW cI cJ cB h v i j a b) → va_S A s.heap H locs → lv_has ls 11 [(0, .ref h), (5, .int v5)] → W p l e ({ frames := 2, cells := 0, slots := 0, locals := 47 } : Room) s m args below meth c H locs 0 0 (MQ below (va_Qi (xR r2) (yB dC dI cI cJ cB h v i2 j2 a2 b2 A) A) args s 0 0 A) (F0 m 17 ls [])) (i : Nat → Int32) (j : Nat → Int64) (a : Nat → Nat → Int32) (b : Nat → Nat → Int64) (v5 : Int32) (hm : m_Model_equal_b206 n rc_17 i j a b v5 = some (i2, j2, a2, b2, r2)) : ∀ (H : Heap) (locs : List Loc) (ls : Array Slot), va_P (dC, dI) classes (MW cI cJ cB h v i j a b) H → va_D A (MW cI cJ cB h v i j a b) → va_S A s.heap H locs → lv_has ls 11 [(0, .ref h), (5, .int v5)] → W p l e ({ frames := 2, cells := 0, slots := 0, locals := 47 } : Room) s m args below meth c H locs 0 0 (MQ below (va_Qi (xR r2) (yB dC dI cI cJ cB h v i2 j2 a2 b2 A) A) args s 0 0 A) (F0 m 206 ls []) := by
  have htt : ∀ w ∈ tw_T, w.before _ s = true := fun w h => hts w (List.mem_cons_of_mem _ h)
  intro H locs ls hP hD hS hl
  rw [m_Model_equal_b206] at hm
  refine lv_goto (tgt := 17) hx hb d_Model_equal_206 (by decide) ?_
  exact Hrc_17 _ _ _ _ _ hm _ _ _ hP hD hS (lv_sub hl [0, 1] rfl)
def m_Model_equal_b148 (n : Nat) (rc_17 : (Nat → Int32) → (Nat → Int64) → (Nat → Nat → Int32) → (Nat → Nat → Int64) → Int32 → Option ((Nat → Int32) × (Nat → Int64) × (Nat → Nat → Int32) × (Nat → Nat → Int64) × Int32)) : Nat → (Nat → Int32) → (Nat → Int64) → (Nat → Nat → Int32) → (Nat → Nat → Int64) → Int32 → Int64 → Int64 → Int32 → Option ((Nat → Int32) × (Nat → Int64) × (Nat → Nat → Int32) × (Nat → Nat → Int64) × Int32)
  | 0, _, _, _, _, _, _, _, _ => none
  | f + 1, i, j, a, b, v5, v6, v8, v10 => ob0 (m_Model_isList n v6) (fun r_2 => if r_2 = ((0 : Int32)) then m_Model_equal_b206 n rc_17 i j a b v5 else ob0 (m_Model_size n i j a b v6) (fun r_5 => if r_5 ≤ v10 then m_Model_equal_b206 n rc_17 i j a b v5 else ob0 (m_Model_member n i j a b v6 v10) (fun r_8 => ck v5 1300 (ob1 (svl b 22 v5.toNatClampNeg r_8 : Nat → Nat → Int64) (fun b_10 => ob0 (m_Model_member n i j a b_10 v8 v10) (fun r_12 => ck v5 1300 (ob1 (svl b_10 23 v5.toNatClampNeg r_12 : Nat → Nat → Int64) (fun b_14 => ob1 (v5 + 1 : Int32) (fun x_15 => ob1 (v10 + 1 : Int32) (fun x_16 => m_Model_equal_b148 n rc_17 f i j a b_14 x_15 v6 v8 x_16))))))))))
set_option maxHeartbeats 4000000 in
set_option maxRecDepth 100000 in
theorem lb_Model_equal_148 (l : Launch) (dC : Nat → ClassId) (dI : Nat → Nat → Nat) (cI cJ cB : ClassId) (adK adV adA : Nat → Nat) (h : Nat) (v : Nat → Nat) (n : Nat) {p : Program} {e : Env} {s : State} {m : MethodId} {args : Array Value} {below : List Frame} {meth : Method} {c : Code} {A : Nat → Prop} (hx : p.tables.exec = Jvm.exec) (hb : c.code = b_Model_equal) (hml : c.maxLocals = 11) (hown : s.vm.findClass R_Model = some m.cls) (hts : ∀ w ∈ w_Model_equal, w.before args s = true) (hK : va_K (dC, dI) classes [(cI, .int), (cJ, .long), (cB, .byte)] s) (hE : tw_E adK adV adA A s s.heap) (hA : ∀ q : Nat, s.heap.size ≤ q → A q) (hr : meth.sig.returnType = (some .boolean)) (hlocks : meth.locks = false) {i2 : Nat → Int32} {j2 : Nat → Int64} {a2 : Nat → Nat → Int32} {b2 : Nat → Nat → Int64} {r2 : Int32} (rc_17 : (Nat → Int32) → (Nat → Int64) → (Nat → Nat → Int32) → (Nat → Nat → Int64) → Int32 → Option ((Nat → Int32) × (Nat → Int64) × (Nat → Nat → Int32) × (Nat → Nat → Int64) × Int32)) (Hrc_17 : ∀ (i : Nat → Int32) (j : Nat → Int64) (a : Nat → Nat → Int32) (b : Nat → Nat → Int64) (v5 : Int32), rc_17 i j a b v5 = some (i2, j2, a2, b2, r2) → ∀ (H : Heap) (locs : List Loc) (ls : Array Slot), va_P (dC, dI) classes (MW cI cJ cB h v i j a b) H → va_D A (MW cI cJ cB h v i j a b) → va_S A s.heap H locs → lv_has ls 11 [(0, .ref h), (5, .int v5)] → W p l e ({ frames := 2, cells := 0, slots := 0, locals := 47 } : Room) s m args below meth c H locs 0 0 (MQ below (va_Qi (xR r2) (yB dC dI cI cJ cB h v i2 j2 a2 b2 A) A) args s 0 0 A) (F0 m 17 ls [])) : ∀ (f : Nat) (i : Nat → Int32) (j : Nat → Int64) (a : Nat → Nat → Int32) (b : Nat → Nat → Int64) (v5 : Int32) (v6 : Int64) (v8 : Int64) (v10 : Int32), m_Model_equal_b148 n rc_17 f i j a b v5 v6 v8 v10 = some (i2, j2, a2, b2, r2) → ∀ (H : Heap) (locs : List Loc) (ls : Array Slot), va_P (dC, dI) classes (MW cI cJ cB h v i j a b) H → va_D A (MW cI cJ cB h v i j a b) → va_S A s.heap H locs → lv_has ls 11 [(0, .ref h), (5, .int v5), (6, .long v6), (8, .long v8), (10, .int v10)] → W p l e ({ frames := 2, cells := 0, slots := 0, locals := 47 } : Room) s m args below meth c H locs 0 0 (MQ below (va_Qi (xR r2) (yB dC dI cI cJ cB h v i2 j2 a2 b2 A) A) args s 0 0 A) (F0 m 148 ls []) := by
  have htt : ∀ w ∈ tw_T, w.before _ s = true := fun w h => hts w (List.mem_cons_of_mem _ h)
  intro f
  induction f with
  | zero =>
    intro i j a b v5 v6 v8 v10 hm
    rw [m_Model_equal_b148] at hm
    cases hm
  | succ f ih =>
    intro i j a b v5 v6 v8 v10 hm H locs ls hP hD hS hl
    rw [m_Model_equal_b148] at hm
    refine lv_lload hx hb d_Model_equal_148 (lv_at hl 2 rfl) ?_
    obtain ⟨r_2, h_1, hm⟩ := ob0_some hm
    have hFc := x_free0 hS hA
    refine va_calli (va_runS (As := [.long v6]) (rest := []) ⟨hx, hb, hml, hown, hts⟩ (x_Model_isList l H.size n h_1) (va_cwS 1 hts (tw_GS tw_cons cw_Model_isList lk_Model_95 st_Model_isList ini_Model) rfl rfl rfl hd_Model_isList ⟨Nat.le_of_ble_eq_true rfl, Nat.le_of_ble_eq_true rfl⟩) xpS0 rfl rfl hl.1 rfl (lv_room (Nat.le_of_ble_eq_true rfl)) d_Model_equal_150 ⟨Nat.le_of_ble_eq_true rfl, Nat.le_of_ble_eq_true rfl⟩) hS (fun q _ h => hFc q h) hFc (fun r9 u9 t9 H locs ht hvm e9 hB hz1 hk1 hS => ?_)
    have e9 : r_2 = r9 := e9
    subst e9
    replace hP := x_keep hP hk1
    clear hFc hk1 hz1 hvm hB ht
    refine lv_if_eq (tgt := 206) hx hb d_Model_equal_153 (by decide) (fun c_3 => ?_) (fun c_3 => ?_)
    · replace hm := if_t c_3 hm
      exact lb_Model_equal_206 l dC dI cI cJ cB adK adV adA h v n hx hb hml hown hts hK hE hA hr hlocks rc_17 Hrc_17 _ _ _ _ _ hm _ _ _ hP hD hS (lv_sub hl [0, 1] rfl)
    · replace hm := if_f c_3 hm
      refine lv_iload hx hb d_Model_equal_156 (lv_at hl 4 rfl) ?_
      refine lv_aload_n hx hb d_Model_equal_158 rfl (lv_at hl 0 rfl) ?_
      refine lv_lload hx hb d_Model_equal_159 (lv_at hl 2 rfl) ?_
      obtain ⟨r_5, h_4, hm⟩ := ob0_some hm
      have hFc := x_free0 hS hA
      refine va_calli (va_runV (As := [.long v6]) (rest := [.int v10]) ⟨hx, hb, hml, hown, hts⟩ (x_Model_size l dC dI cI cJ cB adK adV adA h v H.size n h_4) (cwV 1 hts (tw_GV tw_cons cw_Model_size lk_Model_98 in_Model_size sel_Model_size ini_Model) rfl rfl rfl ⟨rfl, hd_Model_size⟩ ⟨Nat.le_of_ble_eq_true rfl, Nat.le_of_ble_eq_true rfl⟩) (ypVr hK hP hS hE hFc yo_12 rfl) rfl rfl hl.1 rfl (lv_room (Nat.le_of_ble_eq_true rfl)) d_Model_equal_161 ⟨Nat.le_of_ble_eq_true rfl, Nat.le_of_ble_eq_true rfl⟩) hS (fun q _ h => hFc q h) hFc (fun r9 u9 t9 H locs ht hvm e9 hB hz1 hk1 hS => ?_)
      have e9 : r_5 = r9 := e9
      subst e9
      replace hP := x_keep hP hk1
      clear hFc hk1 hz1 hvm hB ht
      refine lv_icmp_ge (tgt := 206) hx hb d_Model_equal_164 (by decide) (fun c_6 => ?_) (fun c_6 => ?_)
      · replace hm := if_t c_6 hm
        exact lb_Model_equal_206 l dC dI cI cJ cB adK adV adA h v n hx hb hml hown hts hK hE hA hr hlocks rc_17 Hrc_17 _ _ _ _ _ hm _ _ _ hP hD hS (lv_sub hl [0, 1] rfl)
      · replace hm := if_f c_6 hm
        refine lv_aload_n hx hb d_Model_equal_167 rfl (lv_at hl 0 rfl) ?_
        refine va_get (D := (dC, dI)) (ci := 12) (v := .ref ((v 22))) (C := R_Model) (T := F_Model) (N := 127) hx hb htt iw_Model hown hK hP 0 yo_12 rfl 22 (Nat.le_of_ble_eq_true rfl) (htt _ lk_Model_85) (fun _ h9 => h9) yg_22 d_Model_equal_168 ?_
        refine lv_iload hx hb d_Model_equal_171 (lv_at hl 1 rfl) ?_
        refine lv_aload_n hx hb d_Model_equal_173 rfl (lv_at hl 0 rfl) ?_
        refine lv_lload hx hb d_Model_equal_174 (lv_at hl 2 rfl) ?_
        refine lv_iload hx hb d_Model_equal_176 (lv_at hl 4 rfl) ?_
        obtain ⟨r_8, h_7, hm⟩ := ob0_some hm
        have hFc := x_free0 hS hA
        refine va_calll (va_runV (As := [.long v6, .int v10]) (rest := [.int v5, .ref ((v 22))]) ⟨hx, hb, hml, hown, hts⟩ (x_Model_member l dC dI cI cJ cB adK adV adA h v H.size n h_7) (cwV 2 hts (tw_GV tw_cons cw_Model_member lk_Model_101 in_Model_member sel_Model_member ini_Model) rfl rfl rfl ⟨rfl, hd_Model_member⟩ ⟨Nat.le_of_ble_eq_true rfl, Nat.le_of_ble_eq_true rfl⟩) (ypVr hK hP hS hE hFc yo_12 rfl) rfl rfl hl.1 rfl (lv_room (Nat.le_of_ble_eq_true rfl)) d_Model_equal_178 ⟨Nat.le_of_ble_eq_true rfl, Nat.le_of_ble_eq_true rfl⟩) hS (fun q _ h => hFc q h) hFc (fun r9 u9 t9 H locs ht hvm e9 hB hz1 hk1 hS => ?_)
        have e9 : r_8 = r9 := e9
        subst e9
        replace hP := x_keep hP hk1
        clear hFc hk1 hz1 hvm hB ht
        obtain ⟨h_9, hm⟩ := ck_some hm
        refine va_last hx hb hK hP hD hS 18 1 ya_22 rfl h_9 d_Model_equal_181 (fun H locs hP hD hS => ?_)
        obtain ⟨b_10, eb_10⟩ : ∃ y9 : Nat → Nat → Int64, y9 = svl b 22 v5.toNatClampNeg r_8 := ⟨_, rfl⟩
        replace hm := ob1_at eb_10 hm
        obtain ⟨hP, hD⟩ := yv_22 eb_10 hP hD
        refine lv_aload_n hx hb d_Model_equal_182 rfl (lv_at hl 0 rfl) ?_
        refine va_get (D := (dC, dI)) (ci := 12) (v := .ref ((v 23))) (C := R_Model) (T := F_Model) (N := 127) hx hb htt iw_Model hown hK hP 0 yo_12 rfl 23 (Nat.le_of_ble_eq_true rfl) (htt _ lk_Model_88) (fun _ h9 => h9) yg_23 d_Model_equal_183 ?_
        refine lv_iload hx hb d_Model_equal_186 (lv_at hl 1 rfl) ?_
        refine lv_aload_n hx hb d_Model_equal_188 rfl (lv_at hl 0 rfl) ?_
        refine lv_lload hx hb d_Model_equal_189 (lv_at hl 3 rfl) ?_
        refine lv_iload hx hb d_Model_equal_191 (lv_at hl 4 rfl) ?_
        obtain ⟨r_12, h_11, hm⟩ := ob0_some hm
        have hFc := x_free0 hS hA
        refine va_calll (va_runV (As := [.long v8, .int v10]) (rest := [.int v5, .ref ((v 23))]) ⟨hx, hb, hml, hown, hts⟩ (x_Model_member l dC dI cI cJ cB adK adV adA h v H.size n h_11) (cwV 2 hts (tw_GV tw_cons cw_Model_member lk_Model_101 in_Model_member sel_Model_member ini_Model) rfl rfl rfl ⟨rfl, hd_Model_member⟩ ⟨Nat.le_of_ble_eq_true rfl, Nat.le_of_ble_eq_true rfl⟩) (ypVr hK hP hS hE hFc yo_12 rfl) rfl rfl hl.1 rfl (lv_room (Nat.le_of_ble_eq_true rfl)) d_Model_equal_193 ⟨Nat.le_of_ble_eq_true rfl, Nat.le_of_ble_eq_true rfl⟩) hS (fun q _ h => hFc q h) hFc (fun r9 u9 t9 H locs ht hvm e9 hB hz1 hk1 hS => ?_)
        have e9 : r_12 = r9 := e9
        subst e9
        replace hP := x_keep hP hk1
        clear hFc hk1 hz1 hvm hB ht
        obtain ⟨h_13, hm⟩ := ck_some hm
        refine va_last hx hb hK hP hD hS 19 1 ya_23 rfl h_13 d_Model_equal_196 (fun H locs hP hD hS => ?_)
        obtain ⟨b_14, eb_14⟩ : ∃ y9 : Nat → Nat → Int64, y9 = svl b_10 23 v5.toNatClampNeg r_12 := ⟨_, rfl⟩
        replace hm := ob1_at eb_14 hm
        obtain ⟨hP, hD⟩ := yv_23 eb_14 hP hD
        obtain ⟨x_15, ex_15⟩ : ∃ y9 : Int32, y9 = v5 + 1 := ⟨_, rfl⟩
        replace hm := ob1_at ex_15 hm
        refine lv_iinc (v := x_15) (lv' := [(5, .int x_15), (0, .ref h), (6, .long v6), (8, .long v8), (10, .int v10)]) hx hb d_Model_equal_197 hl (k := 1) rfl (by rw [ex_15]; rfl) (by decide) rfl (fun ls hl => ?_)
        obtain ⟨x_16, ex_16⟩ : ∃ y9 : Int32, y9 = v10 + 1 := ⟨_, rfl⟩
        replace hm := ob1_at ex_16 hm
        refine lv_iinc (v := x_16) (lv' := [(10, .int x_16), (5, .int x_15), (0, .ref h), (6, .long v6), (8, .long v8)]) hx hb d_Model_equal_200 hl (k := 4) rfl (by rw [ex_16]; rfl) (by decide) rfl (fun ls hl => ?_)
        refine lv_goto (tgt := 148) hx hb d_Model_equal_203 (by decide) ?_
        exact ih _ _ _ _ _ _ _ _ hm _ _ _ hP hD hS (lv_sub hl [2, 1, 3, 4, 0] rfl)
def m_Model_equal_b145 (n : Nat) (rc_17 : (Nat → Int32) → (Nat → Int64) → (Nat → Nat → Int32) → (Nat → Nat → Int64) → Int32 → Option ((Nat → Int32) × (Nat → Int64) × (Nat → Nat → Int32) × (Nat → Nat → Int64) × Int32)) (i : Nat → Int32) (j : Nat → Int64) (a : Nat → Nat → Int32) (b : Nat → Nat → Int64) (v5 : Int32) (v6 : Int64) (v8 : Int64) : Option ((Nat → Int32) × (Nat → Int64) × (Nat → Nat → Int32) × (Nat → Nat → Int64) × Int32) := m_Model_equal_b148 n rc_17 n i j a b v5 v6 v8 (0 : Int32)
set_option maxHeartbeats 4000000 in
set_option maxRecDepth 100000 in
theorem lb_Model_equal_145 (l : Launch) (dC : Nat → ClassId) (dI : Nat → Nat → Nat) (cI cJ cB : ClassId) (adK adV adA : Nat → Nat) (h : Nat) (v : Nat → Nat) (n : Nat) {p : Program} {e : Env} {s : State} {m : MethodId} {args : Array Value} {below : List Frame} {meth : Method} {c : Code} {A : Nat → Prop} (hx : p.tables.exec = Jvm.exec) (hb : c.code = b_Model_equal) (hml : c.maxLocals = 11) (hown : s.vm.findClass R_Model = some m.cls) (hts : ∀ w ∈ w_Model_equal, w.before args s = true) (hK : va_K (dC, dI) classes [(cI, .int), (cJ, .long), (cB, .byte)] s) (hE : tw_E adK adV adA A s s.heap) (hA : ∀ q : Nat, s.heap.size ≤ q → A q) (hr : meth.sig.returnType = (some .boolean)) (hlocks : meth.locks = false) {i2 : Nat → Int32} {j2 : Nat → Int64} {a2 : Nat → Nat → Int32} {b2 : Nat → Nat → Int64} {r2 : Int32} (rc_17 : (Nat → Int32) → (Nat → Int64) → (Nat → Nat → Int32) → (Nat → Nat → Int64) → Int32 → Option ((Nat → Int32) × (Nat → Int64) × (Nat → Nat → Int32) × (Nat → Nat → Int64) × Int32)) (Hrc_17 : ∀ (i : Nat → Int32) (j : Nat → Int64) (a : Nat → Nat → Int32) (b : Nat → Nat → Int64) (v5 : Int32), rc_17 i j a b v5 = some (i2, j2, a2, b2, r2) → ∀ (H : Heap) (locs : List Loc) (ls : Array Slot), va_P (dC, dI) classes (MW cI cJ cB h v i j a b) H → va_D A (MW cI cJ cB h v i j a b) → va_S A s.heap H locs → lv_has ls 11 [(0, .ref h), (5, .int v5)] → W p l e ({ frames := 2, cells := 0, slots := 0, locals := 47 } : Room) s m args below meth c H locs 0 0 (MQ below (va_Qi (xR r2) (yB dC dI cI cJ cB h v i2 j2 a2 b2 A) A) args s 0 0 A) (F0 m 17 ls [])) (i : Nat → Int32) (j : Nat → Int64) (a : Nat → Nat → Int32) (b : Nat → Nat → Int64) (v5 : Int32) (v6 : Int64) (v8 : Int64) (hm : m_Model_equal_b145 n rc_17 i j a b v5 v6 v8 = some (i2, j2, a2, b2, r2)) : ∀ (H : Heap) (locs : List Loc) (ls : Array Slot), va_P (dC, dI) classes (MW cI cJ cB h v i j a b) H → va_D A (MW cI cJ cB h v i j a b) → va_S A s.heap H locs → lv_has ls 11 [(0, .ref h), (5, .int v5), (6, .long v6), (8, .long v8)] → W p l e ({ frames := 2, cells := 0, slots := 0, locals := 47 } : Room) s m args below meth c H locs 0 0 (MQ below (va_Qi (xR r2) (yB dC dI cI cJ cB h v i2 j2 a2 b2 A) A) args s 0 0 A) (F0 m 145 ls []) := by
  have htt : ∀ w ∈ tw_T, w.before _ s = true := fun w h => hts w (List.mem_cons_of_mem _ h)
  intro H locs ls hP hD hS hl
  rw [m_Model_equal_b145] at hm
  refine lv_iconst (v := 0) hx hb d_Model_equal_145 (by decide) ?_
  refine lv_istore (lv' := [(10, .int 0), (0, .ref h), (5, .int v5), (6, .long v6), (8, .long v8)]) hx hb d_Model_equal_146 hl (by decide) rfl (fun ls hl => ?_)
  exact lb_Model_equal_148 l dC dI cI cJ cB adK adV adA h v n hx hb hml hown hts hK hE hA hr hlocks rc_17 Hrc_17 n _ _ _ _ _ _ _ _ hm _ _ _ hP hD hS (lv_sub hl [1, 2, 3, 4, 0] rfl)
def m_Model_equal_b97 (n : Nat) (rc_17 : (Nat → Int32) → (Nat → Int64) → (Nat → Nat → Int32) → (Nat → Nat → Int64) → Int32 → Option ((Nat → Int32) × (Nat → Int64) × (Nat → Nat → Int32) × (Nat → Nat → Int64) × Int32)) (i : Nat → Int32) (j : Nat → Int64) (a : Nat → Nat → Int32) (b : Nat → Nat → Int64) (v5 : Int32) (v6 : Int64) (v8 : Int64) : Option ((Nat → Int32) × (Nat → Int64) × (Nat → Nat → Int32) × (Nat → Nat → Int64) × Int32) := ob0 (m_Model_isList n v6) (fun r_2 => if r_2 = ((0 : Int32)) then m_Model_equal_b145 n rc_17 i j a b v5 v6 v8 else ob0 (m_Model_size n i j a b v6) (fun r_5 => ob0 (m_Model_size n i j a b v8) (fun r_7 => if r_5 = r_7 then ob0 (m_Model_what n v6) (fun r_10 => ck r_10 90000 (ob0 (m_Model_what n v8) (fun r_13 => ck r_13 90000 (if ((a 14 r_10.toNatClampNeg)) = ((a 14 r_13.toNatClampNeg)) then m_Model_equal_b145 n rc_17 i j a b v5 v6 v8 else some (i, j, a, b, 0))))) else some (i, j, a, b, 0))))
set_option maxHeartbeats 4000000 in
set_option maxRecDepth 100000 in
theorem lb_Model_equal_97 (l : Launch) (dC : Nat → ClassId) (dI : Nat → Nat → Nat) (cI cJ cB : ClassId) (adK adV adA : Nat → Nat) (h : Nat) (v : Nat → Nat) (n : Nat) {p : Program} {e : Env} {s : State} {m : MethodId} {args : Array Value} {below : List Frame} {meth : Method} {c : Code} {A : Nat → Prop} (hx : p.tables.exec = Jvm.exec) (hb : c.code = b_Model_equal) (hml : c.maxLocals = 11) (hown : s.vm.findClass R_Model = some m.cls) (hts : ∀ w ∈ w_Model_equal, w.before args s = true) (hK : va_K (dC, dI) classes [(cI, .int), (cJ, .long), (cB, .byte)] s) (hE : tw_E adK adV adA A s s.heap) (hA : ∀ q : Nat, s.heap.size ≤ q → A q) (hr : meth.sig.returnType = (some .boolean)) (hlocks : meth.locks = false) {i2 : Nat → Int32} {j2 : Nat → Int64} {a2 : Nat → Nat → Int32} {b2 : Nat → Nat → Int64} {r2 : Int32} (rc_17 : (Nat → Int32) → (Nat → Int64) → (Nat → Nat → Int32) → (Nat → Nat → Int64) → Int32 → Option ((Nat → Int32) × (Nat → Int64) × (Nat → Nat → Int32) × (Nat → Nat → Int64) × Int32)) (Hrc_17 : ∀ (i : Nat → Int32) (j : Nat → Int64) (a : Nat → Nat → Int32) (b : Nat → Nat → Int64) (v5 : Int32), rc_17 i j a b v5 = some (i2, j2, a2, b2, r2) → ∀ (H : Heap) (locs : List Loc) (ls : Array Slot), va_P (dC, dI) classes (MW cI cJ cB h v i j a b) H → va_D A (MW cI cJ cB h v i j a b) → va_S A s.heap H locs → lv_has ls 11 [(0, .ref h), (5, .int v5)] → W p l e ({ frames := 2, cells := 0, slots := 0, locals := 47 } : Room) s m args below meth c H locs 0 0 (MQ below (va_Qi (xR r2) (yB dC dI cI cJ cB h v i2 j2 a2 b2 A) A) args s 0 0 A) (F0 m 17 ls [])) (i : Nat → Int32) (j : Nat → Int64) (a : Nat → Nat → Int32) (b : Nat → Nat → Int64) (v5 : Int32) (v6 : Int64) (v8 : Int64) (hm : m_Model_equal_b97 n rc_17 i j a b v5 v6 v8 = some (i2, j2, a2, b2, r2)) : ∀ (H : Heap) (locs : List Loc) (ls : Array Slot), va_P (dC, dI) classes (MW cI cJ cB h v i j a b) H → va_D A (MW cI cJ cB h v i j a b) → va_S A s.heap H locs → lv_has ls 11 [(0, .ref h), (5, .int v5), (6, .long v6), (8, .long v8)] → W p l e ({ frames := 2, cells := 0, slots := 0, locals := 47 } : Room) s m args below meth c H locs 0 0 (MQ below (va_Qi (xR r2) (yB dC dI cI cJ cB h v i2 j2 a2 b2 A) A) args s 0 0 A) (F0 m 97 ls []) := by
  have htt : ∀ w ∈ tw_T, w.before _ s = true := fun w h => hts w (List.mem_cons_of_mem _ h)
  intro H locs ls hP hD hS hl
  rw [m_Model_equal_b97] at hm
  refine lv_lload hx hb d_Model_equal_97 (lv_at hl 2 rfl) ?_
  obtain ⟨r_2, h_1, hm⟩ := ob0_some hm
  have hFc := x_free0 hS hA
  refine va_calli (va_runS (As := [.long v6]) (rest := []) ⟨hx, hb, hml, hown, hts⟩ (x_Model_isList l H.size n h_1) (va_cwS 1 hts (tw_GS tw_cons cw_Model_isList lk_Model_95 st_Model_isList ini_Model) rfl rfl rfl hd_Model_isList ⟨Nat.le_of_ble_eq_true rfl, Nat.le_of_ble_eq_true rfl⟩) xpS0 rfl rfl hl.1 rfl (lv_room (Nat.le_of_ble_eq_true rfl)) d_Model_equal_99 ⟨Nat.le_of_ble_eq_true rfl, Nat.le_of_ble_eq_true rfl⟩) hS (fun q _ h => hFc q h) hFc (fun r9 u9 t9 H locs ht hvm e9 hB hz1 hk1 hS => ?_)
  have e9 : r_2 = r9 := e9
  subst e9
  replace hP := x_keep hP hk1
  clear hFc hk1 hz1 hvm hB ht
  refine lv_if_eq (tgt := 145) hx hb d_Model_equal_102 (by decide) (fun c_3 => ?_) (fun c_3 => ?_)
  · replace hm := if_t c_3 hm
    exact lb_Model_equal_145 l dC dI cI cJ cB adK adV adA h v n hx hb hml hown hts hK hE hA hr hlocks rc_17 Hrc_17 _ _ _ _ _ _ _ hm _ _ _ hP hD hS (lv_sub hl [0, 1, 2, 3] rfl)
  · replace hm := if_f c_3 hm
    refine lv_aload_n hx hb d_Model_equal_105 rfl (lv_at hl 0 rfl) ?_
    refine lv_lload hx hb d_Model_equal_106 (lv_at hl 2 rfl) ?_
    obtain ⟨r_5, h_4, hm⟩ := ob0_some hm
    have hFc := x_free0 hS hA
    refine va_calli (va_runV (As := [.long v6]) (rest := []) ⟨hx, hb, hml, hown, hts⟩ (x_Model_size l dC dI cI cJ cB adK adV adA h v H.size n h_4) (cwV 1 hts (tw_GV tw_cons cw_Model_size lk_Model_98 in_Model_size sel_Model_size ini_Model) rfl rfl rfl ⟨rfl, hd_Model_size⟩ ⟨Nat.le_of_ble_eq_true rfl, Nat.le_of_ble_eq_true rfl⟩) (ypVr hK hP hS hE hFc yo_12 rfl) rfl rfl hl.1 rfl (lv_room (Nat.le_of_ble_eq_true rfl)) d_Model_equal_108 ⟨Nat.le_of_ble_eq_true rfl, Nat.le_of_ble_eq_true rfl⟩) hS (fun q _ h => hFc q h) hFc (fun r9 u9 t9 H locs ht hvm e9 hB hz1 hk1 hS => ?_)
    have e9 : r_5 = r9 := e9
    subst e9
    replace hP := x_keep hP hk1
    clear hFc hk1 hz1 hvm hB ht
    refine lv_aload_n hx hb d_Model_equal_111 rfl (lv_at hl 0 rfl) ?_
    refine lv_lload hx hb d_Model_equal_112 (lv_at hl 3 rfl) ?_
    obtain ⟨r_7, h_6, hm⟩ := ob0_some hm
    have hFc := x_free0 hS hA
    refine va_calli (va_runV (As := [.long v8]) (rest := [.int r_5]) ⟨hx, hb, hml, hown, hts⟩ (x_Model_size l dC dI cI cJ cB adK adV adA h v H.size n h_6) (cwV 1 hts (tw_GV tw_cons cw_Model_size lk_Model_98 in_Model_size sel_Model_size ini_Model) rfl rfl rfl ⟨rfl, hd_Model_size⟩ ⟨Nat.le_of_ble_eq_true rfl, Nat.le_of_ble_eq_true rfl⟩) (ypVr hK hP hS hE hFc yo_12 rfl) rfl rfl hl.1 rfl (lv_room (Nat.le_of_ble_eq_true rfl)) d_Model_equal_114 ⟨Nat.le_of_ble_eq_true rfl, Nat.le_of_ble_eq_true rfl⟩) hS (fun q _ h => hFc q h) hFc (fun r9 u9 t9 H locs ht hvm e9 hB hz1 hk1 hS => ?_)
    have e9 : r_7 = r9 := e9
    subst e9
    replace hP := x_keep hP hk1
    clear hFc hk1 hz1 hvm hB ht
    refine lv_icmp_ne (tgt := 143) hx hb d_Model_equal_117 (by decide) (fun c_8 => ?_) (fun c_8 => ?_)
    · replace hm := if_f c_8 hm
      refine lv_iconst (v := 0) hx hb d_Model_equal_143 (by decide) ?_
      obtain ⟨e1i, e1j, e1a, e1b, e3⟩ := re4m hm
      obtain ⟨hP, hD⟩ := y_eq e1i e1j e1a e1b hP hD
      exact W.zret hx hb hr (by decide) (fun t9 ht hW => ⟨⟨_, (), rfl, e3.symm, by rw [ht]; exact hP, hD⟩, hS.F ht⟩) hS.2.2 d_Model_equal_144
    · replace hm := if_t c_8 hm
      refine lv_aload_n hx hb d_Model_equal_120 rfl (lv_at hl 0 rfl) ?_
      refine va_get (D := (dC, dI)) (ci := 12) (v := .ref ((v 14))) (C := R_Model) (T := F_Model) (N := 127) hx hb htt iw_Model hown hK hP 0 yo_12 rfl 14 (Nat.le_of_ble_eq_true rfl) (htt _ lk_Model_50) (fun _ h9 => h9) yg_14 d_Model_equal_121 ?_
      refine lv_lload hx hb d_Model_equal_124 (lv_at hl 2 rfl) ?_
      obtain ⟨r_10, h_9, hm⟩ := ob0_some hm
      have hFc := x_free0 hS hA
      refine va_calli (va_runS (As := [.long v6]) (rest := [.ref ((v 14))]) ⟨hx, hb, hml, hown, hts⟩ (x_Model_what l H.size n h_9) (va_cwS 1 hts (tw_GS tw_cons cw_Model_what lk_Model_64 st_Model_what ini_Model) rfl rfl rfl hd_Model_what ⟨Nat.le_of_ble_eq_true rfl, Nat.le_of_ble_eq_true rfl⟩) xpS0 rfl rfl hl.1 rfl (lv_room (Nat.le_of_ble_eq_true rfl)) d_Model_equal_126 ⟨Nat.le_of_ble_eq_true rfl, Nat.le_of_ble_eq_true rfl⟩) hS (fun q _ h => hFc q h) hFc (fun r9 u9 t9 H locs ht hvm e9 hB hz1 hk1 hS => ?_)
      have e9 : r_10 = r9 := e9
      subst e9
      replace hP := x_keep hP hk1
      clear hFc hk1 hz1 hvm hB ht
      obtain ⟨h_11, hm⟩ := ck_some hm
      refine va_iald hx hb hK hP 14 0 ya_14 rfl h_11 d_Model_equal_129 ?_
      refine lv_aload_n hx hb d_Model_equal_130 rfl (lv_at hl 0 rfl) ?_
      refine va_get (D := (dC, dI)) (ci := 12) (v := .ref ((v 14))) (C := R_Model) (T := F_Model) (N := 127) hx hb htt iw_Model hown hK hP 0 yo_12 rfl 14 (Nat.le_of_ble_eq_true rfl) (htt _ lk_Model_50) (fun _ h9 => h9) yg_14 d_Model_equal_131 ?_
      refine lv_lload hx hb d_Model_equal_134 (lv_at hl 3 rfl) ?_
      obtain ⟨r_13, h_12, hm⟩ := ob0_some hm
      have hFc := x_free0 hS hA
      refine va_calli (va_runS (As := [.long v8]) (rest := [.ref ((v 14)), .int (a 14 r_10.toNatClampNeg)]) ⟨hx, hb, hml, hown, hts⟩ (x_Model_what l H.size n h_12) (va_cwS 1 hts (tw_GS tw_cons cw_Model_what lk_Model_64 st_Model_what ini_Model) rfl rfl rfl hd_Model_what ⟨Nat.le_of_ble_eq_true rfl, Nat.le_of_ble_eq_true rfl⟩) xpS0 rfl rfl hl.1 rfl (lv_room (Nat.le_of_ble_eq_true rfl)) d_Model_equal_136 ⟨Nat.le_of_ble_eq_true rfl, Nat.le_of_ble_eq_true rfl⟩) hS (fun q _ h => hFc q h) hFc (fun r9 u9 t9 H locs ht hvm e9 hB hz1 hk1 hS => ?_)
      have e9 : r_13 = r9 := e9
      subst e9
      replace hP := x_keep hP hk1
      clear hFc hk1 hz1 hvm hB ht
      obtain ⟨h_14, hm⟩ := ck_some hm
      refine va_iald hx hb hK hP 14 0 ya_14 rfl h_14 d_Model_equal_139 ?_
      refine lv_icmp_eq (tgt := 145) hx hb d_Model_equal_140 (by decide) (fun c_15 => ?_) (fun c_15 => ?_)
      · replace hm := if_t c_15 hm
        exact lb_Model_equal_145 l dC dI cI cJ cB adK adV adA h v n hx hb hml hown hts hK hE hA hr hlocks rc_17 Hrc_17 _ _ _ _ _ _ _ hm _ _ _ hP hD hS (lv_sub hl [0, 1, 2, 3] rfl)
      · replace hm := if_f c_15 hm
        refine lv_iconst (v := 0) hx hb d_Model_equal_143 (by decide) ?_
        obtain ⟨e1i, e1j, e1a, e1b, e3⟩ := re4m hm
        obtain ⟨hP, hD⟩ := y_eq e1i e1j e1a e1b hP hD
        exact W.zret hx hb hr (by decide) (fun t9 ht hW => ⟨⟨_, (), rfl, e3.symm, by rw [ht]; exact hP, hD⟩, hS.F ht⟩) hS.2.2 d_Model_equal_144
def m_Model_equal_b72 (n : Nat) (rc_17 : (Nat → Int32) → (Nat → Int64) → (Nat → Nat → Int32) → (Nat → Nat → Int64) → Int32 → Option ((Nat → Int32) × (Nat → Int64) × (Nat → Nat → Int32) × (Nat → Nat → Int64) × Int32)) (i : Nat → Int32) (j : Nat → Int64) (a : Nat → Nat → Int32) (b : Nat → Nat → Int64) (v5 : Int32) (v6 : Int64) (v8 : Int64) : Option ((Nat → Int32) × (Nat → Int64) × (Nat → Nat → Int32) × (Nat → Nat → Int64) × Int32) := ob0 (m_Model_isWord n v6) (fun r_2 => if r_2 = ((0 : Int32)) then m_Model_equal_b97 n rc_17 i j a b v5 v6 v8 else ob0 (m_Model_what n v6) (fun r_5 => ob0 (m_Model_what n v8) (fun r_7 => ob0 (m_Model_sameWord n i j a b r_5 r_7) (fun r_9 => if r_9 = ((0 : Int32)) then some (i, j, a, b, 0) else m_Model_equal_b97 n rc_17 i j a b v5 v6 v8))))
set_option maxHeartbeats 4000000 in
set_option maxRecDepth 100000 in
theorem lb_Model_equal_72 (l : Launch) (dC : Nat → ClassId) (dI : Nat → Nat → Nat) (cI cJ cB : ClassId) (adK adV adA : Nat → Nat) (h : Nat) (v : Nat → Nat) (n : Nat) {p : Program} {e : Env} {s : State} {m : MethodId} {args : Array Value} {below : List Frame} {meth : Method} {c : Code} {A : Nat → Prop} (hx : p.tables.exec = Jvm.exec) (hb : c.code = b_Model_equal) (hml : c.maxLocals = 11) (hown : s.vm.findClass R_Model = some m.cls) (hts : ∀ w ∈ w_Model_equal, w.before args s = true) (hK : va_K (dC, dI) classes [(cI, .int), (cJ, .long), (cB, .byte)] s) (hE : tw_E adK adV adA A s s.heap) (hA : ∀ q : Nat, s.heap.size ≤ q → A q) (hr : meth.sig.returnType = (some .boolean)) (hlocks : meth.locks = false) {i2 : Nat → Int32} {j2 : Nat → Int64} {a2 : Nat → Nat → Int32} {b2 : Nat → Nat → Int64} {r2 : Int32} (rc_17 : (Nat → Int32) → (Nat → Int64) → (Nat → Nat → Int32) → (Nat → Nat → Int64) → Int32 → Option ((Nat → Int32) × (Nat → Int64) × (Nat → Nat → Int32) × (Nat → Nat → Int64) × Int32)) (Hrc_17 : ∀ (i : Nat → Int32) (j : Nat → Int64) (a : Nat → Nat → Int32) (b : Nat → Nat → Int64) (v5 : Int32), rc_17 i j a b v5 = some (i2, j2, a2, b2, r2) → ∀ (H : Heap) (locs : List Loc) (ls : Array Slot), va_P (dC, dI) classes (MW cI cJ cB h v i j a b) H → va_D A (MW cI cJ cB h v i j a b) → va_S A s.heap H locs → lv_has ls 11 [(0, .ref h), (5, .int v5)] → W p l e ({ frames := 2, cells := 0, slots := 0, locals := 47 } : Room) s m args below meth c H locs 0 0 (MQ below (va_Qi (xR r2) (yB dC dI cI cJ cB h v i2 j2 a2 b2 A) A) args s 0 0 A) (F0 m 17 ls [])) (i : Nat → Int32) (j : Nat → Int64) (a : Nat → Nat → Int32) (b : Nat → Nat → Int64) (v5 : Int32) (v6 : Int64) (v8 : Int64) (hm : m_Model_equal_b72 n rc_17 i j a b v5 v6 v8 = some (i2, j2, a2, b2, r2)) : ∀ (H : Heap) (locs : List Loc) (ls : Array Slot), va_P (dC, dI) classes (MW cI cJ cB h v i j a b) H → va_D A (MW cI cJ cB h v i j a b) → va_S A s.heap H locs → lv_has ls 11 [(0, .ref h), (5, .int v5), (6, .long v6), (8, .long v8)] → W p l e ({ frames := 2, cells := 0, slots := 0, locals := 47 } : Room) s m args below meth c H locs 0 0 (MQ below (va_Qi (xR r2) (yB dC dI cI cJ cB h v i2 j2 a2 b2 A) A) args s 0 0 A) (F0 m 72 ls []) := by
  have htt : ∀ w ∈ tw_T, w.before _ s = true := fun w h => hts w (List.mem_cons_of_mem _ h)
  intro H locs ls hP hD hS hl
  rw [m_Model_equal_b72] at hm
  refine lv_lload hx hb d_Model_equal_72 (lv_at hl 2 rfl) ?_
  obtain ⟨r_2, h_1, hm⟩ := ob0_some hm
  have hFc := x_free0 hS hA
  refine va_calli (va_runS (As := [.long v6]) (rest := []) ⟨hx, hb, hml, hown, hts⟩ (x_Model_isWord l H.size n h_1) (va_cwS 1 hts (tw_GS tw_cons cw_Model_isWord lk_Model_61 st_Model_isWord ini_Model) rfl rfl rfl hd_Model_isWord ⟨Nat.le_of_ble_eq_true rfl, Nat.le_of_ble_eq_true rfl⟩) xpS0 rfl rfl hl.1 rfl (lv_room (Nat.le_of_ble_eq_true rfl)) d_Model_equal_74 ⟨Nat.le_of_ble_eq_true rfl, Nat.le_of_ble_eq_true rfl⟩) hS (fun q _ h => hFc q h) hFc (fun r9 u9 t9 H locs ht hvm e9 hB hz1 hk1 hS => ?_)
  have e9 : r_2 = r9 := e9
  subst e9
  replace hP := x_keep hP hk1
  clear hFc hk1 hz1 hvm hB ht
  refine lv_if_eq (tgt := 97) hx hb d_Model_equal_77 (by decide) (fun c_3 => ?_) (fun c_3 => ?_)
  · replace hm := if_t c_3 hm
    exact lb_Model_equal_97 l dC dI cI cJ cB adK adV adA h v n hx hb hml hown hts hK hE hA hr hlocks rc_17 Hrc_17 _ _ _ _ _ _ _ hm _ _ _ hP hD hS (lv_sub hl [0, 1, 2, 3] rfl)
  · replace hm := if_f c_3 hm
    refine lv_aload_n hx hb d_Model_equal_80 rfl (lv_at hl 0 rfl) ?_
    refine lv_lload hx hb d_Model_equal_81 (lv_at hl 2 rfl) ?_
    obtain ⟨r_5, h_4, hm⟩ := ob0_some hm
    have hFc := x_free0 hS hA
    refine va_calli (va_runS (As := [.long v6]) (rest := [.ref h]) ⟨hx, hb, hml, hown, hts⟩ (x_Model_what l H.size n h_4) (va_cwS 1 hts (tw_GS tw_cons cw_Model_what lk_Model_64 st_Model_what ini_Model) rfl rfl rfl hd_Model_what ⟨Nat.le_of_ble_eq_true rfl, Nat.le_of_ble_eq_true rfl⟩) xpS0 rfl rfl hl.1 rfl (lv_room (Nat.le_of_ble_eq_true rfl)) d_Model_equal_83 ⟨Nat.le_of_ble_eq_true rfl, Nat.le_of_ble_eq_true rfl⟩) hS (fun q _ h => hFc q h) hFc (fun r9 u9 t9 H locs ht hvm e9 hB hz1 hk1 hS => ?_)
    have e9 : r_5 = r9 := e9
    subst e9
    replace hP := x_keep hP hk1
    clear hFc hk1 hz1 hvm hB ht
    refine lv_lload hx hb d_Model_equal_86 (lv_at hl 3 rfl) ?_
    obtain ⟨r_7, h_6, hm⟩ := ob0_some hm
    have hFc := x_free0 hS hA
    refine va_calli (va_runS (As := [.long v8]) (rest := [.int r_5, .ref h]) ⟨hx, hb, hml, hown, hts⟩ (x_Model_what l H.size n h_6) (va_cwS 1 hts (tw_GS tw_cons cw_Model_what lk_Model_64 st_Model_what ini_Model) rfl rfl rfl hd_Model_what ⟨Nat.le_of_ble_eq_true rfl, Nat.le_of_ble_eq_true rfl⟩) xpS0 rfl rfl hl.1 rfl (lv_room (Nat.le_of_ble_eq_true rfl)) d_Model_equal_88 ⟨Nat.le_of_ble_eq_true rfl, Nat.le_of_ble_eq_true rfl⟩) hS (fun q _ h => hFc q h) hFc (fun r9 u9 t9 H locs ht hvm e9 hB hz1 hk1 hS => ?_)
    have e9 : r_7 = r9 := e9
    subst e9
    replace hP := x_keep hP hk1
    clear hFc hk1 hz1 hvm hB ht
    obtain ⟨r_9, h_8, hm⟩ := ob0_some hm
    have hFc := x_free0 hS hA
    refine va_calli (va_runV (As := [.int r_5, .int r_7]) (rest := []) ⟨hx, hb, hml, hown, hts⟩ (x_Model_sameWord l dC dI cI cJ cB adK adV adA h v H.size n h_8) (cwV 2 hts (tw_GV tw_cons cw_Model_sameWord lk_Model_91 in_Model_sameWord sel_Model_sameWord ini_Model) rfl rfl rfl ⟨rfl, hd_Model_sameWord⟩ ⟨Nat.le_of_ble_eq_true rfl, Nat.le_of_ble_eq_true rfl⟩) (ypVr hK hP hS hE hFc yo_12 rfl) rfl rfl hl.1 rfl (lv_room (Nat.le_of_ble_eq_true rfl)) d_Model_equal_91 ⟨Nat.le_of_ble_eq_true rfl, Nat.le_of_ble_eq_true rfl⟩) hS (fun q _ h => hFc q h) hFc (fun r9 u9 t9 H locs ht hvm e9 hB hz1 hk1 hS => ?_)
    have e9 : r_9 = r9 := e9
    subst e9
    replace hP := x_keep hP hk1
    clear hFc hk1 hz1 hvm hB ht
    refine lv_if_eq (tgt := 143) hx hb d_Model_equal_94 (by decide) (fun c_10 => ?_) (fun c_10 => ?_)
    · replace hm := if_t c_10 hm
      refine lv_iconst (v := 0) hx hb d_Model_equal_143 (by decide) ?_
      obtain ⟨e1i, e1j, e1a, e1b, e3⟩ := re4m hm
      obtain ⟨hP, hD⟩ := y_eq e1i e1j e1a e1b hP hD
      exact W.zret hx hb hr (by decide) (fun t9 ht hW => ⟨⟨_, (), rfl, e3.symm, by rw [ht]; exact hP, hD⟩, hS.F ht⟩) hS.2.2 d_Model_equal_144
    · replace hm := if_f c_10 hm
      exact lb_Model_equal_97 l dC dI cI cJ cB adK adV adA h v n hx hb hml hown hts hK hE hA hr hlocks rc_17 Hrc_17 _ _ _ _ _ _ _ hm _ _ _ hP hD hS (lv_sub hl [0, 1, 2, 3] rfl)
def m_Model_equal_b17 (n : Nat) : Nat → (Nat → Int32) → (Nat → Int64) → (Nat → Nat → Int32) → (Nat → Nat → Int64) → Int32 → Option ((Nat → Int32) × (Nat → Int64) × (Nat → Nat → Int32) × (Nat → Nat → Int64) × Int32)
  | 0, _, _, _, _, _ => none
  | f + 1, i, j, a, b, v5 => if v5 ≤ ((0 : Int32)) then some (i, j, a, b, 1) else ob1 (v5 + (-1) : Int32) (fun x_2 => ck x_2 1300 (ob1 (b 22 x_2.toNatClampNeg : Int64) (fun x_4 => ck x_2 1300 (ob1 (b 23 x_2.toNatClampNeg : Int64) (fun x_6 => ob0 (m_Model_kindOf n x_4) (fun r_8 => ob0 (m_Model_kindOf n x_6) (fun r_10 => if r_8 = r_10 then ob0 (m_Model_isNumber n x_4) (fun r_13 => if r_13 = ((0 : Int32)) then m_Model_equal_b72 n (m_Model_equal_b17 n f) i j a b x_2 x_4 x_6 else if ((lg_cmp x_4 x_6)) = ((0 : Int32)) then m_Model_equal_b72 n (m_Model_equal_b17 n f) i j a b x_2 x_4 x_6 else some (i, j, a, b, 0)) else some (i, j, a, b, 0))))))))
set_option maxHeartbeats 4000000 in
set_option maxRecDepth 100000 in
theorem lb_Model_equal_17 (l : Launch) (dC : Nat → ClassId) (dI : Nat → Nat → Nat) (cI cJ cB : ClassId) (adK adV adA : Nat → Nat) (h : Nat) (v : Nat → Nat) (n : Nat) {p : Program} {e : Env} {s : State} {m : MethodId} {args : Array Value} {below : List Frame} {meth : Method} {c : Code} {A : Nat → Prop} (hx : p.tables.exec = Jvm.exec) (hb : c.code = b_Model_equal) (hml : c.maxLocals = 11) (hown : s.vm.findClass R_Model = some m.cls) (hts : ∀ w ∈ w_Model_equal, w.before args s = true) (hK : va_K (dC, dI) classes [(cI, .int), (cJ, .long), (cB, .byte)] s) (hE : tw_E adK adV adA A s s.heap) (hA : ∀ q : Nat, s.heap.size ≤ q → A q) (hr : meth.sig.returnType = (some .boolean)) (hlocks : meth.locks = false) {i2 : Nat → Int32} {j2 : Nat → Int64} {a2 : Nat → Nat → Int32} {b2 : Nat → Nat → Int64} {r2 : Int32} : ∀ (f : Nat) (i : Nat → Int32) (j : Nat → Int64) (a : Nat → Nat → Int32) (b : Nat → Nat → Int64) (v5 : Int32), m_Model_equal_b17 n f i j a b v5 = some (i2, j2, a2, b2, r2) → ∀ (H : Heap) (locs : List Loc) (ls : Array Slot), va_P (dC, dI) classes (MW cI cJ cB h v i j a b) H → va_D A (MW cI cJ cB h v i j a b) → va_S A s.heap H locs → lv_has ls 11 [(0, .ref h), (5, .int v5)] → W p l e ({ frames := 2, cells := 0, slots := 0, locals := 47 } : Room) s m args below meth c H locs 0 0 (MQ below (va_Qi (xR r2) (yB dC dI cI cJ cB h v i2 j2 a2 b2 A) A) args s 0 0 A) (F0 m 17 ls []) := by
  have htt : ∀ w ∈ tw_T, w.before _ s = true := fun w h => hts w (List.mem_cons_of_mem _ h)
  intro f
  induction f with
  | zero =>
    intro i j a b v5 hm
    rw [m_Model_equal_b17] at hm
    cases hm
  | succ f ih =>
    intro i j a b v5 hm H locs ls hP hD hS hl
    rw [m_Model_equal_b17] at hm
    refine lv_iload hx hb d_Model_equal_17 (lv_at hl 1 rfl) ?_
    refine lv_if_le (tgt := 209) hx hb d_Model_equal_19 (by decide) (fun c_1 => ?_) (fun c_1 => ?_)
    · replace hm := if_t c_1 hm
      refine lv_iconst (v := 1) hx hb d_Model_equal_209 (by decide) ?_
      obtain ⟨e1i, e1j, e1a, e1b, e3⟩ := re4m hm
      obtain ⟨hP, hD⟩ := y_eq e1i e1j e1a e1b hP hD
      exact W.zret hx hb hr (by decide) (fun t9 ht hW => ⟨⟨_, (), rfl, e3.symm, by rw [ht]; exact hP, hD⟩, hS.F ht⟩) hS.2.2 d_Model_equal_210
    · replace hm := if_f c_1 hm
      obtain ⟨x_2, ex_2⟩ : ∃ y9 : Int32, y9 = v5 + (-1) := ⟨_, rfl⟩
      replace hm := ob1_at ex_2 hm
      refine lv_iinc (v := x_2) (lv' := [(5, .int x_2), (0, .ref h)]) hx hb d_Model_equal_22 hl (k := 1) rfl (by rw [ex_2]; rfl) (by decide) rfl (fun ls hl => ?_)
      refine lv_aload_n hx hb d_Model_equal_25 rfl (lv_at hl 1 rfl) ?_
      refine va_get (D := (dC, dI)) (ci := 12) (v := .ref ((v 22))) (C := R_Model) (T := F_Model) (N := 127) hx hb htt iw_Model hown hK hP 0 yo_12 rfl 22 (Nat.le_of_ble_eq_true rfl) (htt _ lk_Model_85) (fun _ h9 => h9) yg_22 d_Model_equal_26 ?_
      refine lv_iload hx hb d_Model_equal_29 (lv_at hl 0 rfl) ?_
      obtain ⟨h_3, hm⟩ := ck_some hm
      refine va_lald hx hb hK hP 18 1 ya_22 rfl h_3 d_Model_equal_31 ?_
      refine lv_topl (fun x_4 ex_4 => ?_)
      replace hm := ob1_at ex_4 hm
      refine lv_lstore (lv' := [(6, .long x_4), (5, .int x_2), (0, .ref h)]) hx hb d_Model_equal_32 hl (by decide) rfl (fun ls hl => ?_)
      refine lv_aload_n hx hb d_Model_equal_34 rfl (lv_at hl 2 rfl) ?_
      refine va_get (D := (dC, dI)) (ci := 12) (v := .ref ((v 23))) (C := R_Model) (T := F_Model) (N := 127) hx hb htt iw_Model hown hK hP 0 yo_12 rfl 23 (Nat.le_of_ble_eq_true rfl) (htt _ lk_Model_88) (fun _ h9 => h9) yg_23 d_Model_equal_35 ?_
      refine lv_iload hx hb d_Model_equal_38 (lv_at hl 1 rfl) ?_
      obtain ⟨h_5, hm⟩ := ck_some hm
      refine va_lald hx hb hK hP 19 1 ya_23 rfl h_5 d_Model_equal_40 ?_
      refine lv_topl (fun x_6 ex_6 => ?_)
      replace hm := ob1_at ex_6 hm
      refine lv_lstore (lv' := [(8, .long x_6), (6, .long x_4), (5, .int x_2), (0, .ref h)]) hx hb d_Model_equal_41 hl (by decide) rfl (fun ls hl => ?_)
      refine lv_lload hx hb d_Model_equal_43 (lv_at hl 1 rfl) ?_
      obtain ⟨r_8, h_7, hm⟩ := ob0_some hm
      have hFc := x_free0 hS hA
      refine va_calli (va_runS (As := [.long x_4]) (rest := []) ⟨hx, hb, hml, hown, hts⟩ (x_Model_kindOf l H.size n h_7) (va_cwS 1 hts (tw_GS tw_cons cw_Model_kindOf lk_Model_11 st_Model_kindOf ini_Model) rfl rfl rfl hd_Model_kindOf ⟨Nat.le_of_ble_eq_true rfl, Nat.le_of_ble_eq_true rfl⟩) xpS0 rfl rfl hl.1 rfl (lv_room (Nat.le_of_ble_eq_true rfl)) d_Model_equal_45 ⟨Nat.le_of_ble_eq_true rfl, Nat.le_of_ble_eq_true rfl⟩) hS (fun q _ h => hFc q h) hFc (fun r9 u9 t9 H locs ht hvm e9 hB hz1 hk1 hS => ?_)
      have e9 : r_8 = r9 := e9
      subst e9
      replace hP := x_keep hP hk1
      clear hFc hk1 hz1 hvm hB ht
      refine lv_lload hx hb d_Model_equal_48 (lv_at hl 0 rfl) ?_
      obtain ⟨r_10, h_9, hm⟩ := ob0_some hm
      have hFc := x_free0 hS hA
      refine va_calli (va_runS (As := [.long x_6]) (rest := [.int r_8]) ⟨hx, hb, hml, hown, hts⟩ (x_Model_kindOf l H.size n h_9) (va_cwS 1 hts (tw_GS tw_cons cw_Model_kindOf lk_Model_11 st_Model_kindOf ini_Model) rfl rfl rfl hd_Model_kindOf ⟨Nat.le_of_ble_eq_true rfl, Nat.le_of_ble_eq_true rfl⟩) xpS0 rfl rfl hl.1 rfl (lv_room (Nat.le_of_ble_eq_true rfl)) d_Model_equal_50 ⟨Nat.le_of_ble_eq_true rfl, Nat.le_of_ble_eq_true rfl⟩) hS (fun q _ h => hFc q h) hFc (fun r9 u9 t9 H locs ht hvm e9 hB hz1 hk1 hS => ?_)
      have e9 : r_10 = r9 := e9
      subst e9
      replace hP := x_keep hP hk1
      clear hFc hk1 hz1 hvm hB ht
      refine lv_icmp_ne (tgt := 143) hx hb d_Model_equal_53 (by decide) (fun c_11 => ?_) (fun c_11 => ?_)
      · replace hm := if_f c_11 hm
        refine lv_iconst (v := 0) hx hb d_Model_equal_143 (by decide) ?_
        obtain ⟨e1i, e1j, e1a, e1b, e3⟩ := re4m hm
        obtain ⟨hP, hD⟩ := y_eq e1i e1j e1a e1b hP hD
        exact W.zret hx hb hr (by decide) (fun t9 ht hW => ⟨⟨_, (), rfl, e3.symm, by rw [ht]; exact hP, hD⟩, hS.F ht⟩) hS.2.2 d_Model_equal_144
      · replace hm := if_t c_11 hm
        refine lv_lload hx hb d_Model_equal_56 (lv_at hl 1 rfl) ?_
        obtain ⟨r_13, h_12, hm⟩ := ob0_some hm
        have hFc := x_free0 hS hA
        refine va_calli (va_runS (As := [.long x_4]) (rest := []) ⟨hx, hb, hml, hown, hts⟩ (x_Model_isNumber l H.size n h_12) (va_cwS 1 hts (tw_GS tw_cons cw_Model_isNumber lk_Model_57 st_Model_isNumber ini_Model) rfl rfl rfl hd_Model_isNumber ⟨Nat.le_of_ble_eq_true rfl, Nat.le_of_ble_eq_true rfl⟩) xpS0 rfl rfl hl.1 rfl (lv_room (Nat.le_of_ble_eq_true rfl)) d_Model_equal_58 ⟨Nat.le_of_ble_eq_true rfl, Nat.le_of_ble_eq_true rfl⟩) hS (fun q _ h => hFc q h) hFc (fun r9 u9 t9 H locs ht hvm e9 hB hz1 hk1 hS => ?_)
        have e9 : r_13 = r9 := e9
        subst e9
        replace hP := x_keep hP hk1
        clear hFc hk1 hz1 hvm hB ht
        refine lv_if_eq (tgt := 72) hx hb d_Model_equal_61 (by decide) (fun c_14 => ?_) (fun c_14 => ?_)
        · replace hm := if_t c_14 hm
          exact lb_Model_equal_72 l dC dI cI cJ cB adK adV adA h v n hx hb hml hown hts hK hE hA hr hlocks (m_Model_equal_b17 n f) ih _ _ _ _ _ _ _ hm _ _ _ hP hD hS (lv_sub hl [3, 2, 1, 0] rfl)
        · replace hm := if_f c_14 hm
          refine lv_lload hx hb d_Model_equal_64 (lv_at hl 1 rfl) ?_
          refine lv_lload hx hb d_Model_equal_66 (lv_at hl 0 rfl) ?_
          refine W.lcmp hx hb d_Model_equal_68 ?_
          refine lv_if_ne (tgt := 143) hx hb d_Model_equal_69 (by decide) (fun c_15 => ?_) (fun c_15 => ?_)
          · replace hm := if_f c_15 hm
            refine lv_iconst (v := 0) hx hb d_Model_equal_143 (by decide) ?_
            obtain ⟨e1i, e1j, e1a, e1b, e3⟩ := re4m hm
            obtain ⟨hP, hD⟩ := y_eq e1i e1j e1a e1b hP hD
            exact W.zret hx hb hr (by decide) (fun t9 ht hW => ⟨⟨_, (), rfl, e3.symm, by rw [ht]; exact hP, hD⟩, hS.F ht⟩) hS.2.2 d_Model_equal_144
          · replace hm := if_t c_15 hm
            exact lb_Model_equal_72 l dC dI cI cJ cB adK adV adA h v n hx hb hml hown hts hK hE hA hr hlocks (m_Model_equal_b17 n f) ih _ _ _ _ _ _ _ hm _ _ _ hP hD hS (lv_sub hl [3, 2, 1, 0] rfl)
def m_Model_equal (n : Nat) (i : Nat → Int32) (j : Nat → Int64) (a : Nat → Nat → Int32) (b : Nat → Nat → Int64) (v1 : Int64) (v3 : Int64) : Option ((Nat → Int32) × (Nat → Int64) × (Nat → Nat → Int32) × (Nat → Nat → Int64) × Int32) := ck ((0 : Int32)) 1300 (ob1 (svl b 22 (0 : Int32).toNatClampNeg v1 : Nat → Nat → Int64) (fun b_2 => ck ((0 : Int32)) 1300 (ob1 (svl b_2 23 (0 : Int32).toNatClampNeg v3 : Nat → Nat → Int64) (fun b_4 => m_Model_equal_b17 n n i j a b_4 (1 : Int32)))))
set_option maxHeartbeats 4000000 in
set_option maxRecDepth 100000 in
theorem x_Model_equal (l : Launch) (dC : Nat → ClassId) (dI : Nat → Nat → Nat) (cI cJ cB : ClassId) (adK adV adA : Nat → Nat) (h : Nat) (v : Nat → Nat) (sz : Nat) (n : Nat) {i : Nat → Int32} {j : Nat → Int64} {a : Nat → Nat → Int32} {b : Nat → Nat → Int64} {v1 : Int64} {v3 : Int64} {i2 : Nat → Int32} {j2 : Nat → Int64} {a2 : Nat → Nat → Int32} {b2 : Nat → Nat → Int64} {r2 : Int32} (hm : m_Model_equal n i j a b v1 v3 = some (i2, j2, a2, b2, r2)) : Met l y_Model_equal w_Model_equal ({ frames := 2, cells := 0, slots := 0, locals := 47 } : Room) (va_Pc [.ref h, .long v1, .long v3] (yE dC dI cI cJ cB adK adV adA h v i j a b sz)) (va_Qi (xR r2) (yB dC dI cI cJ cB h v i2 j2 a2 b2 (va_A (MW cI cJ cB h v i j a b) sz)) (va_A (MW cI cJ cB h v i j a b) sz)) 0 0 ((va_A (MW cI cJ cB h v i j a b) sz)) := by
  refine Met.ofW (cc := b_Model_equal) (maxL := 11) (ret := (some .boolean)) (by decide) rfl ?_
  intro p e s m args below meth c s₁ B hml hv
  obtain ⟨rfl, hsz, hP, hK, hE, hD0⟩ := hv
  have hx := B.exec
  have hb := B.bytes
  have hr := B.returns
  have hts := atoms_spec (ws := w_Model_equal) B.pre
  have htt : ∀ w ∈ tw_T, w.before _ s = true := fun w h => hts w (List.mem_cons_of_mem _ h)
  have hown : s.vm.findClass R_Model = some m.cls := findClass_of_methodNamed B.named
  have hlocks := B.notSynchronized
  subst hsz
  have hD := hD0.self (sz := s.heap.size)
  generalize hAe : (va_A (MW cI cJ cB h v i j a b) s.heap.size) = A at hD hE ⊢
  have hA : ∀ q : Nat, s.heap.size ≤ q → A q := fun q h => by rw [← hAe]; exact Or.inr h
  have hS : va_S A s.heap s.heap [] := va_S.rf
  have hl := lv_entry ([.ref h, .long v1, .long v3]) (n := 11) (Nat.le_of_ble_eq_true rfl)
  rw [lg_entry_eq]
  generalize (lg_sl ([.ref h, .long v1, .long v3]) ++ List.replicate (11 - (lg_sl ([.ref h, .long v1, .long v3])).length) Slot.unset).toArray = ls at hl ⊢
  have hl : lv_has ls 11 [(0, .ref h), (1, .long v1), (3, .long v3)] := hl
  rw [m_Model_equal] at hm
  refine lv_iconst (v := 1) hx hb d_Model_equal_0 (by decide) ?_
  refine lv_istore (lv' := [(5, .int 1), (0, .ref h), (1, .long v1), (3, .long v3)]) hx hb d_Model_equal_1 hl (by decide) rfl (fun ls hl => ?_)
  refine lv_aload_n hx hb d_Model_equal_3 rfl (lv_at hl 1 rfl) ?_
  refine va_get (D := (dC, dI)) (ci := 12) (v := .ref ((v 22))) (C := R_Model) (T := F_Model) (N := 127) hx hb htt iw_Model hown hK hP 0 yo_12 rfl 22 (Nat.le_of_ble_eq_true rfl) (htt _ lk_Model_85) (fun _ h9 => h9) yg_22 d_Model_equal_4 ?_
  refine lv_iconst (v := 0) hx hb d_Model_equal_7 (by decide) ?_
  refine lv_lload_n hx hb d_Model_equal_8 rfl (lv_at hl 2 rfl) ?_
  obtain ⟨h_1, hm⟩ := ck_some hm
  refine va_last hx hb hK hP hD hS 18 1 ya_22 rfl h_1 d_Model_equal_9 (fun H locs hP hD hS => ?_)
  obtain ⟨b_2, eb_2⟩ : ∃ y9 : Nat → Nat → Int64, y9 = svl b 22 (0 : Int32).toNatClampNeg v1 := ⟨_, rfl⟩
  replace hm := ob1_at eb_2 hm
  obtain ⟨hP, hD⟩ := yv_22 eb_2 hP hD
  refine lv_aload_n hx hb d_Model_equal_10 rfl (lv_at hl 1 rfl) ?_
  refine va_get (D := (dC, dI)) (ci := 12) (v := .ref ((v 23))) (C := R_Model) (T := F_Model) (N := 127) hx hb htt iw_Model hown hK hP 0 yo_12 rfl 23 (Nat.le_of_ble_eq_true rfl) (htt _ lk_Model_88) (fun _ h9 => h9) yg_23 d_Model_equal_11 ?_
  refine lv_iconst (v := 0) hx hb d_Model_equal_14 (by decide) ?_
  refine lv_lload_n hx hb d_Model_equal_15 rfl (lv_at hl 3 rfl) ?_
  obtain ⟨h_3, hm⟩ := ck_some hm
  refine va_last hx hb hK hP hD hS 19 1 ya_23 rfl h_3 d_Model_equal_16 (fun H locs hP hD hS => ?_)
  obtain ⟨b_4, eb_4⟩ : ∃ y9 : Nat → Nat → Int64, y9 = svl b_2 23 (0 : Int32).toNatClampNeg v3 := ⟨_, rfl⟩
  replace hm := ob1_at eb_4 hm
  obtain ⟨hP, hD⟩ := yv_23 eb_4 hP hD
  exact lb_Model_equal_17 l dC dI cI cJ cB adK adV adA h v n hx hb hml hown hts hK hE hA hr hlocks n _ _ _ _ _ hm _ _ _ hP hD hS (lv_sub hl [1, 0] rfl)

def m_Model_sayFlat_b20 (n : Nat) : Nat → (Nat → Int32) → (Nat → Int64) → (Nat → Nat → Int32) → (Nat → Nat → Int64) → Int64 → Int32 → Option ((Nat → Int32) × (Nat → Int64) × (Nat → Nat → Int32) × (Nat → Nat → Int64) × Int32)
  | 0, _, _, _, _, _, _ => none
  | f + 1, i, j, a, b, v1, v3 => ob0 (m_Model_what n v1) (fun r_2 => ck r_2 120000 (if ((a 4 r_2.toNatClampNeg)) ≤ v3 then some (i, j, a, b, (0 : Int32)) else ob0 (m_Model_what n v1) (fun r_6 => ck r_6 120000 (ck (((a 3 r_6.toNatClampNeg) + v3)) 300000 (om (m_Model_say n i j a b (a 1 ((a 3 r_6.toNatClampNeg) + v3).toNatClampNeg)) (fun i_10 j_11 a_12 b_13 r_14 => ob1 (v3 + 1 : Int32) (fun x_15 => m_Model_sayFlat_b20 n f i_10 j_11 a_12 b_13 v1 x_15)))))))
set_option maxHeartbeats 4000000 in
set_option maxRecDepth 100000 in
theorem lb_Model_sayFlat_20 (l : Launch) (dC : Nat → ClassId) (dI : Nat → Nat → Nat) (cI cJ cB : ClassId) (adK adV adA : Nat → Nat) (h : Nat) (v : Nat → Nat) (n : Nat) {p : Program} {e : Env} {s : State} {m : MethodId} {args : Array Value} {below : List Frame} {meth : Method} {c : Code} {A : Nat → Prop} (hx : p.tables.exec = Jvm.exec) (hb : c.code = b_Model_sayFlat) (hml : c.maxLocals = 4) (hown : s.vm.findClass R_Model = some m.cls) (hts : ∀ w ∈ w_Model_sayFlat, w.before args s = true) (hK : va_K (dC, dI) classes [(cI, .int), (cJ, .long), (cB, .byte)] s) (hE : tw_E adK adV adA A s s.heap) (hA : ∀ q : Nat, s.heap.size ≤ q → A q) (hr : meth.sig.returnType = none) (hlocks : meth.locks = false) {i2 : Nat → Int32} {j2 : Nat → Int64} {a2 : Nat → Nat → Int32} {b2 : Nat → Nat → Int64} {r2 : Int32} : ∀ (f : Nat) (i : Nat → Int32) (j : Nat → Int64) (a : Nat → Nat → Int32) (b : Nat → Nat → Int64) (v1 : Int64) (v3 : Int32), m_Model_sayFlat_b20 n f i j a b v1 v3 = some (i2, j2, a2, b2, r2) → ∀ (H : Heap) (locs : List Loc) (ls : Array Slot), va_P (dC, dI) classes (MW cI cJ cB h v i j a b) H → va_D A (MW cI cJ cB h v i j a b) → va_S A s.heap H locs → lv_has ls 4 [(0, .ref h), (1, .long v1), (3, .int v3)] → W p l e ({ frames := 2, cells := 0, slots := 0, locals := 44 } : Room) s m args below meth c H locs 0 0 (MQ below (va_Qv xV (yB dC dI cI cJ cB h v i2 j2 a2 b2 A) A) args s 0 0 A) (F0 m 20 ls []) := by
  have htt : ∀ w ∈ tw_T, w.before _ s = true := fun w h => hts w (List.mem_cons_of_mem _ h)
  intro f
  induction f with
  | zero =>
    intro i j a b v1 v3 hm
    rw [m_Model_sayFlat_b20] at hm
    cases hm
  | succ f ih =>
    intro i j a b v1 v3 hm H locs ls hP hD hS hl
    rw [m_Model_sayFlat_b20] at hm
    refine lv_iload_n hx hb d_Model_sayFlat_20 rfl (lv_at hl 2 rfl) ?_
    refine lv_aload_n hx hb d_Model_sayFlat_21 rfl (lv_at hl 0 rfl) ?_
    refine va_get (D := (dC, dI)) (ci := 12) (v := .ref ((v 4))) (C := R_Model) (T := F_Model) (N := 127) hx hb htt iw_Model hown hK hP 0 yo_12 rfl 4 (Nat.le_of_ble_eq_true rfl) (htt _ lk_Model_22) (fun _ h9 => h9) yg_4 d_Model_sayFlat_22 ?_
    refine lv_lload_n hx hb d_Model_sayFlat_25 rfl (lv_at hl 1 rfl) ?_
    obtain ⟨r_2, h_1, hm⟩ := ob0_some hm
    have hFc := x_free0 hS hA
    refine va_calli (va_runS (As := [.long v1]) (rest := [.ref ((v 4)), .int v3]) ⟨hx, hb, hml, hown, hts⟩ (x_Model_what l H.size n h_1) (va_cwS 1 hts (tw_GS tw_cons cw_Model_what lk_Model_64 st_Model_what ini_Model) rfl rfl rfl hd_Model_what ⟨Nat.le_of_ble_eq_true rfl, Nat.le_of_ble_eq_true rfl⟩) xpS0 rfl rfl hl.1 rfl (lv_room (Nat.le_of_ble_eq_true rfl)) d_Model_sayFlat_26 ⟨Nat.le_of_ble_eq_true rfl, Nat.le_of_ble_eq_true rfl⟩) hS (fun q _ h => hFc q h) hFc (fun r9 u9 t9 H locs ht hvm e9 hB hz1 hk1 hS => ?_)
    have e9 : r_2 = r9 := e9
    subst e9
    replace hP := x_keep hP hk1
    clear hFc hk1 hz1 hvm hB ht
    obtain ⟨h_3, hm⟩ := ck_some hm
    refine va_iald hx hb hK hP 4 0 ya_4 rfl h_3 d_Model_sayFlat_29 ?_
    refine lv_icmp_ge (tgt := 59) hx hb d_Model_sayFlat_30 (by decide) (fun c_4 => ?_) (fun c_4 => ?_)
    · replace hm := if_t c_4 hm
      obtain ⟨e1i, e1j, e1a, e1b, e3⟩ := re4m hm
      obtain ⟨hP, hD⟩ := y_eq e1i e1j e1a e1b hP hD
      exact W.vret hx hb hr (fun t9 ht hW => ⟨⟨(), rfl, trivial, by rw [ht]; exact hP, hD⟩, hS.F ht⟩) hS.2.2 d_Model_sayFlat_59
    · replace hm := if_f c_4 hm
      refine lv_aload_n hx hb d_Model_sayFlat_33 rfl (lv_at hl 0 rfl) ?_
      refine lv_aload_n hx hb d_Model_sayFlat_34 rfl (lv_at hl 0 rfl) ?_
      refine va_get (D := (dC, dI)) (ci := 12) (v := .ref ((v 1))) (C := R_Model) (T := F_Model) (N := 127) hx hb htt iw_Model hown hK hP 0 yo_12 rfl 1 (Nat.le_of_ble_eq_true rfl) (htt _ lk_Model_67) (fun _ h9 => h9) yg_1 d_Model_sayFlat_35 ?_
      refine lv_aload_n hx hb d_Model_sayFlat_38 rfl (lv_at hl 0 rfl) ?_
      refine va_get (D := (dC, dI)) (ci := 12) (v := .ref ((v 3))) (C := R_Model) (T := F_Model) (N := 127) hx hb htt iw_Model hown hK hP 0 yo_12 rfl 3 (Nat.le_of_ble_eq_true rfl) (htt _ lk_Model_15) (fun _ h9 => h9) yg_3 d_Model_sayFlat_39 ?_
      refine lv_lload_n hx hb d_Model_sayFlat_42 rfl (lv_at hl 1 rfl) ?_
      obtain ⟨r_6, h_5, hm⟩ := ob0_some hm
      have hFc := x_free0 hS hA
      refine va_calli (va_runS (As := [.long v1]) (rest := [.ref ((v 3)), .ref ((v 1)), .ref h]) ⟨hx, hb, hml, hown, hts⟩ (x_Model_what l H.size n h_5) (va_cwS 1 hts (tw_GS tw_cons cw_Model_what lk_Model_64 st_Model_what ini_Model) rfl rfl rfl hd_Model_what ⟨Nat.le_of_ble_eq_true rfl, Nat.le_of_ble_eq_true rfl⟩) xpS0 rfl rfl hl.1 rfl (lv_room (Nat.le_of_ble_eq_true rfl)) d_Model_sayFlat_43 ⟨Nat.le_of_ble_eq_true rfl, Nat.le_of_ble_eq_true rfl⟩) hS (fun q _ h => hFc q h) hFc (fun r9 u9 t9 H locs ht hvm e9 hB hz1 hk1 hS => ?_)
      have e9 : r_6 = r9 := e9
      subst e9
      replace hP := x_keep hP hk1
      clear hFc hk1 hz1 hvm hB ht
      obtain ⟨h_7, hm⟩ := ck_some hm
      refine va_iald hx hb hK hP 3 0 ya_3 rfl h_7 d_Model_sayFlat_46 ?_
      refine lv_iload_n hx hb d_Model_sayFlat_47 rfl (lv_at hl 2 rfl) ?_
      refine lv_iadd hx hb d_Model_sayFlat_48 ?_
      obtain ⟨h_8, hm⟩ := ck_some hm
      refine va_bald hx hb hK hP 1 2 ya_1 rfl h_8 d_Model_sayFlat_49 ?_
      obtain ⟨i_10, j_11, a_12, b_13, r_14, h_9, hm⟩ := om_some hm
      have hFc := x_free hD hS hA
      refine va_callv (va_runV (As := [.int (a 1 ((a 3 r_6.toNatClampNeg) + v3).toNatClampNeg)]) (rest := []) ⟨hx, hb, hml, hown, hts⟩ (x_Model_say l dC dI cI cJ cB adK adV adA h v H.size n h_9) (cwV 1 hts (tw_GV tw_cons cw_Model_say lk_Model_111 in_Model_say sel_Model_say ini_Model) rfl rfl rfl ⟨rfl, hd_Model_say⟩ ⟨Nat.le_of_ble_eq_true rfl, Nat.le_of_ble_eq_true rfl⟩) (ypV hK hP hD hS hE hFc yo_12 rfl) rfl rfl hl.1 rfl (lv_room (Nat.le_of_ble_eq_true rfl)) d_Model_sayFlat_50 ⟨Nat.le_of_ble_eq_true rfl, Nat.le_of_ble_eq_true rfl⟩) hS (fun q _ h => hFc q h) hFc (fun u9 t9 H locs ht hvm e9 hB hz1 hk1 hS => ?_)
      obtain ⟨hP, hD⟩ := y_aft hB ht hFc
      clear hFc hk1 hz1 hvm hB ht
      obtain ⟨x_15, ex_15⟩ : ∃ y9 : Int32, y9 = v3 + 1 := ⟨_, rfl⟩
      replace hm := ob1_at ex_15 hm
      refine lv_iinc (v := x_15) (lv' := [(3, .int x_15), (0, .ref h), (1, .long v1)]) hx hb d_Model_sayFlat_53 hl (k := 2) rfl (by rw [ex_15]; rfl) (by decide) rfl (fun ls hl => ?_)
      refine lv_goto (tgt := 20) hx hb d_Model_sayFlat_56 (by decide) ?_
      exact ih _ _ _ _ _ _ hm _ _ _ hP hD hS (lv_sub hl [1, 2, 0] rfl)
def m_Model_sayFlat (n : Nat) (i : Nat → Int32) (j : Nat → Int64) (a : Nat → Nat → Int32) (b : Nat → Nat → Int64) (v1 : Int64) : Option ((Nat → Int32) × (Nat → Int64) × (Nat → Nat → Int32) × (Nat → Nat → Int64) × Int32) := ob0 (m_Model_isNumber n v1) (fun r_2 => if r_2 = ((0 : Int32)) then m_Model_sayFlat_b20 n n i j a b v1 (0 : Int32) else ob0 (m_Model_what n v1) (fun r_5 => om (m_Model_sayNumber n i j a b r_5) (fun i_7 j_8 a_9 b_10 r_11 => some (i_7, j_8, a_9, b_10, (0 : Int32)))))
set_option maxHeartbeats 4000000 in
set_option maxRecDepth 100000 in
theorem x_Model_sayFlat (l : Launch) (dC : Nat → ClassId) (dI : Nat → Nat → Nat) (cI cJ cB : ClassId) (adK adV adA : Nat → Nat) (h : Nat) (v : Nat → Nat) (sz : Nat) (n : Nat) {i : Nat → Int32} {j : Nat → Int64} {a : Nat → Nat → Int32} {b : Nat → Nat → Int64} {v1 : Int64} {i2 : Nat → Int32} {j2 : Nat → Int64} {a2 : Nat → Nat → Int32} {b2 : Nat → Nat → Int64} {r2 : Int32} (hm : m_Model_sayFlat n i j a b v1 = some (i2, j2, a2, b2, r2)) : Met l y_Model_sayFlat w_Model_sayFlat ({ frames := 2, cells := 0, slots := 0, locals := 44 } : Room) (va_Pc [.ref h, .long v1] (yE dC dI cI cJ cB adK adV adA h v i j a b sz)) (va_Qv xV (yB dC dI cI cJ cB h v i2 j2 a2 b2 (va_A (MW cI cJ cB h v i j a b) sz)) (va_A (MW cI cJ cB h v i j a b) sz)) 0 0 ((va_A (MW cI cJ cB h v i j a b) sz)) := by
  refine Met.ofW (cc := b_Model_sayFlat) (maxL := 4) (ret := none) (by decide) rfl ?_
  intro p e s m args below meth c s₁ B hml hv
  obtain ⟨rfl, hsz, hP, hK, hE, hD0⟩ := hv
  have hx := B.exec
  have hb := B.bytes
  have hr := B.returns
  have hts := atoms_spec (ws := w_Model_sayFlat) B.pre
  have htt : ∀ w ∈ tw_T, w.before _ s = true := fun w h => hts w (List.mem_cons_of_mem _ h)
  have hown : s.vm.findClass R_Model = some m.cls := findClass_of_methodNamed B.named
  have hlocks := B.notSynchronized
  subst hsz
  have hD := hD0.self (sz := s.heap.size)
  generalize hAe : (va_A (MW cI cJ cB h v i j a b) s.heap.size) = A at hD hE ⊢
  have hA : ∀ q : Nat, s.heap.size ≤ q → A q := fun q h => by rw [← hAe]; exact Or.inr h
  have hS : va_S A s.heap s.heap [] := va_S.rf
  have hl := lv_entry ([.ref h, .long v1]) (n := 4) (Nat.le_of_ble_eq_true rfl)
  rw [lg_entry_eq]
  generalize (lg_sl ([.ref h, .long v1]) ++ List.replicate (4 - (lg_sl ([.ref h, .long v1])).length) Slot.unset).toArray = ls at hl ⊢
  have hl : lv_has ls 4 [(0, .ref h), (1, .long v1)] := hl
  rw [m_Model_sayFlat] at hm
  refine lv_lload_n hx hb d_Model_sayFlat_0 rfl (lv_at hl 1 rfl) ?_
  obtain ⟨r_2, h_1, hm⟩ := ob0_some hm
  have hFc := x_free0 hS hA
  refine va_calli (va_runS (As := [.long v1]) (rest := []) ⟨hx, hb, hml, hown, hts⟩ (x_Model_isNumber l s.heap.size n h_1) (va_cwS 1 hts (tw_GS tw_cons cw_Model_isNumber lk_Model_57 st_Model_isNumber ini_Model) rfl rfl rfl hd_Model_isNumber ⟨Nat.le_of_ble_eq_true rfl, Nat.le_of_ble_eq_true rfl⟩) xpS0 rfl rfl hl.1 rfl (lv_room (Nat.le_of_ble_eq_true rfl)) d_Model_sayFlat_1 ⟨Nat.le_of_ble_eq_true rfl, Nat.le_of_ble_eq_true rfl⟩) hS (fun q _ h => hFc q h) hFc (fun r9 u9 t9 H locs ht hvm e9 hB hz1 hk1 hS => ?_)
  have e9 : r_2 = r9 := e9
  subst e9
  replace hP := x_keep hP hk1
  clear hFc hk1 hz1 hvm hB ht
  refine lv_if_eq (tgt := 18) hx hb d_Model_sayFlat_4 (by decide) (fun c_3 => ?_) (fun c_3 => ?_)
  · replace hm := if_t c_3 hm
    refine lv_iconst (v := 0) hx hb d_Model_sayFlat_18 (by decide) ?_
    refine lv_istore_n (lv' := [(3, .int 0), (0, .ref h), (1, .long v1)]) hx hb d_Model_sayFlat_19 rfl hl (by decide) rfl (fun ls hl => ?_)
    exact lb_Model_sayFlat_20 l dC dI cI cJ cB adK adV adA h v n hx hb hml hown hts hK hE hA hr hlocks n _ _ _ _ _ _ hm _ _ _ hP hD hS (lv_sub hl [1, 2, 0] rfl)
  · replace hm := if_f c_3 hm
    refine lv_aload_n hx hb d_Model_sayFlat_7 rfl (lv_at hl 0 rfl) ?_
    refine lv_lload_n hx hb d_Model_sayFlat_8 rfl (lv_at hl 1 rfl) ?_
    obtain ⟨r_5, h_4, hm⟩ := ob0_some hm
    have hFc := x_free0 hS hA
    refine va_calli (va_runS (As := [.long v1]) (rest := [.ref h]) ⟨hx, hb, hml, hown, hts⟩ (x_Model_what l H.size n h_4) (va_cwS 1 hts (tw_GS tw_cons cw_Model_what lk_Model_64 st_Model_what ini_Model) rfl rfl rfl hd_Model_what ⟨Nat.le_of_ble_eq_true rfl, Nat.le_of_ble_eq_true rfl⟩) xpS0 rfl rfl hl.1 rfl (lv_room (Nat.le_of_ble_eq_true rfl)) d_Model_sayFlat_9 ⟨Nat.le_of_ble_eq_true rfl, Nat.le_of_ble_eq_true rfl⟩) hS (fun q _ h => hFc q h) hFc (fun r9 u9 t9 H locs ht hvm e9 hB hz1 hk1 hS => ?_)
    have e9 : r_5 = r9 := e9
    subst e9
    replace hP := x_keep hP hk1
    clear hFc hk1 hz1 hvm hB ht
    obtain ⟨i_7, j_8, a_9, b_10, r_11, h_6, hm⟩ := om_some hm
    have hFc := x_free hD hS hA
    refine va_callv (va_runV (As := [.int r_5]) (rest := []) ⟨hx, hb, hml, hown, hts⟩ (x_Model_sayNumber l dC dI cI cJ cB adK adV adA h v H.size n h_6) (cwV 1 hts (tw_GV tw_cons cw_Model_sayNumber lk_Model_121 in_Model_sayNumber sel_Model_sayNumber ini_Model) rfl rfl rfl ⟨rfl, hd_Model_sayNumber⟩ ⟨Nat.le_of_ble_eq_true rfl, Nat.le_of_ble_eq_true rfl⟩) (ypV hK hP hD hS hE hFc yo_12 rfl) rfl rfl hl.1 rfl (lv_room (Nat.le_of_ble_eq_true rfl)) d_Model_sayFlat_12 ⟨Nat.le_of_ble_eq_true rfl, Nat.le_of_ble_eq_true rfl⟩) hS (fun q _ h => hFc q h) hFc (fun u9 t9 H locs ht hvm e9 hB hz1 hk1 hS => ?_)
    obtain ⟨hP, hD⟩ := y_aft hB ht hFc
    clear hFc hk1 hz1 hvm hB ht
    refine lv_goto (tgt := 59) hx hb d_Model_sayFlat_15 (by decide) ?_
    obtain ⟨e1i, e1j, e1a, e1b, e3⟩ := re4m hm
    obtain ⟨hP, hD⟩ := y_eq e1i e1j e1a e1b hP hD
    exact W.vret hx hb hr (fun t9 ht hW => ⟨⟨(), rfl, trivial, by rw [ht]; exact hP, hD⟩, hS.F ht⟩) hS.2.2 d_Model_sayFlat_59

def m_Model_putAll_b15 (n : Nat) : Nat → (Nat → Int32) → (Nat → Int64) → (Nat → Nat → Int32) → (Nat → Nat → Int64) → Int64 → Int32 → Option ((Nat → Int32) × (Nat → Int64) × (Nat → Nat → Int32) × (Nat → Nat → Int64) × Int32)
  | 0, _, _, _, _, _, _ => none
  | f + 1, i, j, a, b, v1, v3 => ob0 (m_Model_size n i j a b v1) (fun r_2 => if r_2 ≤ v3 then some (i, j, a, b, (0 : Int32)) else ob0 (m_Model_member n i j a b v1 v3) (fun r_5 => om (m_Model_put n i j a b r_5) (fun i_7 j_8 a_9 b_10 r_11 => ob1 (v3 + 1 : Int32) (fun x_12 => m_Model_putAll_b15 n f i_7 j_8 a_9 b_10 v1 x_12))))
set_option maxHeartbeats 4000000 in
set_option maxRecDepth 100000 in
theorem lb_Model_putAll_15 (l : Launch) (dC : Nat → ClassId) (dI : Nat → Nat → Nat) (cI cJ cB : ClassId) (adK adV adA : Nat → Nat) (h : Nat) (v : Nat → Nat) (n : Nat) {p : Program} {e : Env} {s : State} {m : MethodId} {args : Array Value} {below : List Frame} {meth : Method} {c : Code} {A : Nat → Prop} (hx : p.tables.exec = Jvm.exec) (hb : c.code = b_Model_putAll) (hml : c.maxLocals = 4) (hown : s.vm.findClass R_Model = some m.cls) (hts : ∀ w ∈ w_Model_putAll, w.before args s = true) (hK : va_K (dC, dI) classes [(cI, .int), (cJ, .long), (cB, .byte)] s) (hE : tw_E adK adV adA A s s.heap) (hA : ∀ q : Nat, s.heap.size ≤ q → A q) (hr : meth.sig.returnType = none) (hlocks : meth.locks = false) {i2 : Nat → Int32} {j2 : Nat → Int64} {a2 : Nat → Nat → Int32} {b2 : Nat → Nat → Int64} {r2 : Int32} : ∀ (f : Nat) (i : Nat → Int32) (j : Nat → Int64) (a : Nat → Nat → Int32) (b : Nat → Nat → Int64) (v1 : Int64) (v3 : Int32), m_Model_putAll_b15 n f i j a b v1 v3 = some (i2, j2, a2, b2, r2) → ∀ (H : Heap) (locs : List Loc) (ls : Array Slot), va_P (dC, dI) classes (MW cI cJ cB h v i j a b) H → va_D A (MW cI cJ cB h v i j a b) → va_S A s.heap H locs → lv_has ls 4 [(0, .ref h), (1, .long v1), (3, .int v3)] → W p l e ({ frames := 2, cells := 0, slots := 0, locals := 44 } : Room) s m args below meth c H locs 0 0 (MQ below (va_Qv xV (yB dC dI cI cJ cB h v i2 j2 a2 b2 A) A) args s 0 0 A) (F0 m 15 ls []) := by
  have htt : ∀ w ∈ tw_T, w.before _ s = true := fun w h => hts w (List.mem_cons_of_mem _ h)
  intro f
  induction f with
  | zero =>
    intro i j a b v1 v3 hm
    rw [m_Model_putAll_b15] at hm
    cases hm
  | succ f ih =>
    intro i j a b v1 v3 hm H locs ls hP hD hS hl
    rw [m_Model_putAll_b15] at hm
    refine lv_iload_n hx hb d_Model_putAll_15 rfl (lv_at hl 2 rfl) ?_
    refine lv_aload_n hx hb d_Model_putAll_16 rfl (lv_at hl 0 rfl) ?_
    refine lv_lload_n hx hb d_Model_putAll_17 rfl (lv_at hl 1 rfl) ?_
    obtain ⟨r_2, h_1, hm⟩ := ob0_some hm
    have hFc := x_free0 hS hA
    refine va_calli (va_runV (As := [.long v1]) (rest := [.int v3]) ⟨hx, hb, hml, hown, hts⟩ (x_Model_size l dC dI cI cJ cB adK adV adA h v H.size n h_1) (cwV 1 hts (tw_GV tw_cons cw_Model_size lk_Model_98 in_Model_size sel_Model_size ini_Model) rfl rfl rfl ⟨rfl, hd_Model_size⟩ ⟨Nat.le_of_ble_eq_true rfl, Nat.le_of_ble_eq_true rfl⟩) (ypVr hK hP hS hE hFc yo_12 rfl) rfl rfl hl.1 rfl (lv_room (Nat.le_of_ble_eq_true rfl)) d_Model_putAll_18 ⟨Nat.le_of_ble_eq_true rfl, Nat.le_of_ble_eq_true rfl⟩) hS (fun q _ h => hFc q h) hFc (fun r9 u9 t9 H locs ht hvm e9 hB hz1 hk1 hS => ?_)
    have e9 : r_2 = r9 := e9
    subst e9
    replace hP := x_keep hP hk1
    clear hFc hk1 hz1 hvm hB ht
    refine lv_icmp_ge (tgt := 40) hx hb d_Model_putAll_21 (by decide) (fun c_3 => ?_) (fun c_3 => ?_)
    · replace hm := if_t c_3 hm
      obtain ⟨e1i, e1j, e1a, e1b, e3⟩ := re4m hm
      obtain ⟨hP, hD⟩ := y_eq e1i e1j e1a e1b hP hD
      exact W.vret hx hb hr (fun t9 ht hW => ⟨⟨(), rfl, trivial, by rw [ht]; exact hP, hD⟩, hS.F ht⟩) hS.2.2 d_Model_putAll_40
    · replace hm := if_f c_3 hm
      refine lv_aload_n hx hb d_Model_putAll_24 rfl (lv_at hl 0 rfl) ?_
      refine lv_aload_n hx hb d_Model_putAll_25 rfl (lv_at hl 0 rfl) ?_
      refine lv_lload_n hx hb d_Model_putAll_26 rfl (lv_at hl 1 rfl) ?_
      refine lv_iload_n hx hb d_Model_putAll_27 rfl (lv_at hl 2 rfl) ?_
      obtain ⟨r_5, h_4, hm⟩ := ob0_some hm
      have hFc := x_free0 hS hA
      refine va_calll (va_runV (As := [.long v1, .int v3]) (rest := [.ref h]) ⟨hx, hb, hml, hown, hts⟩ (x_Model_member l dC dI cI cJ cB adK adV adA h v H.size n h_4) (cwV 2 hts (tw_GV tw_cons cw_Model_member lk_Model_101 in_Model_member sel_Model_member ini_Model) rfl rfl rfl ⟨rfl, hd_Model_member⟩ ⟨Nat.le_of_ble_eq_true rfl, Nat.le_of_ble_eq_true rfl⟩) (ypVr hK hP hS hE hFc yo_12 rfl) rfl rfl hl.1 rfl (lv_room (Nat.le_of_ble_eq_true rfl)) d_Model_putAll_28 ⟨Nat.le_of_ble_eq_true rfl, Nat.le_of_ble_eq_true rfl⟩) hS (fun q _ h => hFc q h) hFc (fun r9 u9 t9 H locs ht hvm e9 hB hz1 hk1 hS => ?_)
      have e9 : r_5 = r9 := e9
      subst e9
      replace hP := x_keep hP hk1
      clear hFc hk1 hz1 hvm hB ht
      obtain ⟨i_7, j_8, a_9, b_10, r_11, h_6, hm⟩ := om_some hm
      have hFc := x_free hD hS hA
      refine va_callv (va_runV (As := [.long r_5]) (rest := []) ⟨hx, hb, hml, hown, hts⟩ (x_Model_put l dC dI cI cJ cB adK adV adA h v H.size n h_6) (cwV 1 hts (tw_GV tw_cons cw_Model_put lk_Model_465 in_Model_put sel_Model_put ini_Model) rfl rfl rfl ⟨rfl, hd_Model_put⟩ ⟨Nat.le_of_ble_eq_true rfl, Nat.le_of_ble_eq_true rfl⟩) (ypV hK hP hD hS hE hFc yo_12 rfl) rfl rfl hl.1 rfl (lv_room (Nat.le_of_ble_eq_true rfl)) d_Model_putAll_31 ⟨Nat.le_of_ble_eq_true rfl, Nat.le_of_ble_eq_true rfl⟩) hS (fun q _ h => hFc q h) hFc (fun u9 t9 H locs ht hvm e9 hB hz1 hk1 hS => ?_)
      obtain ⟨hP, hD⟩ := y_aft hB ht hFc
      clear hFc hk1 hz1 hvm hB ht
      obtain ⟨x_12, ex_12⟩ : ∃ y9 : Int32, y9 = v3 + 1 := ⟨_, rfl⟩
      replace hm := ob1_at ex_12 hm
      refine lv_iinc (v := x_12) (lv' := [(3, .int x_12), (0, .ref h), (1, .long v1)]) hx hb d_Model_putAll_34 hl (k := 2) rfl (by rw [ex_12]; rfl) (by decide) rfl (fun ls hl => ?_)
      refine lv_goto (tgt := 15) hx hb d_Model_putAll_37 (by decide) ?_
      exact ih _ _ _ _ _ _ hm _ _ _ hP hD hS (lv_sub hl [1, 2, 0] rfl)
def m_Model_putAll (n : Nat) (i : Nat → Int32) (j : Nat → Int64) (a : Nat → Nat → Int32) (b : Nat → Nat → Int64) (v1 : Int64) : Option ((Nat → Int32) × (Nat → Int64) × (Nat → Nat → Int32) × (Nat → Nat → Int64) × Int32) := ob0 (m_Model_isList n v1) (fun r_2 => if r_2 = ((0 : Int32)) then om (m_Model_put n i j a b v1) (fun i_5 j_6 a_7 b_8 r_9 => some (i_5, j_6, a_7, b_8, (0 : Int32))) else m_Model_putAll_b15 n n i j a b v1 (0 : Int32))
set_option maxHeartbeats 4000000 in
set_option maxRecDepth 100000 in
theorem x_Model_putAll (l : Launch) (dC : Nat → ClassId) (dI : Nat → Nat → Nat) (cI cJ cB : ClassId) (adK adV adA : Nat → Nat) (h : Nat) (v : Nat → Nat) (sz : Nat) (n : Nat) {i : Nat → Int32} {j : Nat → Int64} {a : Nat → Nat → Int32} {b : Nat → Nat → Int64} {v1 : Int64} {i2 : Nat → Int32} {j2 : Nat → Int64} {a2 : Nat → Nat → Int32} {b2 : Nat → Nat → Int64} {r2 : Int32} (hm : m_Model_putAll n i j a b v1 = some (i2, j2, a2, b2, r2)) : Met l y_Model_putAll w_Model_putAll ({ frames := 2, cells := 0, slots := 0, locals := 44 } : Room) (va_Pc [.ref h, .long v1] (yE dC dI cI cJ cB adK adV adA h v i j a b sz)) (va_Qv xV (yB dC dI cI cJ cB h v i2 j2 a2 b2 (va_A (MW cI cJ cB h v i j a b) sz)) (va_A (MW cI cJ cB h v i j a b) sz)) 0 0 ((va_A (MW cI cJ cB h v i j a b) sz)) := by
  refine Met.ofW (cc := b_Model_putAll) (maxL := 4) (ret := none) (by decide) rfl ?_
  intro p e s m args below meth c s₁ B hml hv
  obtain ⟨rfl, hsz, hP, hK, hE, hD0⟩ := hv
  have hx := B.exec
  have hb := B.bytes
  have hr := B.returns
  have hts := atoms_spec (ws := w_Model_putAll) B.pre
  have htt : ∀ w ∈ tw_T, w.before _ s = true := fun w h => hts w (List.mem_cons_of_mem _ h)
  have hown : s.vm.findClass R_Model = some m.cls := findClass_of_methodNamed B.named
  have hlocks := B.notSynchronized
  subst hsz
  have hD := hD0.self (sz := s.heap.size)
  generalize hAe : (va_A (MW cI cJ cB h v i j a b) s.heap.size) = A at hD hE ⊢
  have hA : ∀ q : Nat, s.heap.size ≤ q → A q := fun q h => by rw [← hAe]; exact Or.inr h
  have hS : va_S A s.heap s.heap [] := va_S.rf
  have hl := lv_entry ([.ref h, .long v1]) (n := 4) (Nat.le_of_ble_eq_true rfl)
  rw [lg_entry_eq]
  generalize (lg_sl ([.ref h, .long v1]) ++ List.replicate (4 - (lg_sl ([.ref h, .long v1])).length) Slot.unset).toArray = ls at hl ⊢
  have hl : lv_has ls 4 [(0, .ref h), (1, .long v1)] := hl
  rw [m_Model_putAll] at hm
  refine lv_lload_n hx hb d_Model_putAll_0 rfl (lv_at hl 1 rfl) ?_
  obtain ⟨r_2, h_1, hm⟩ := ob0_some hm
  have hFc := x_free0 hS hA
  refine va_calli (va_runS (As := [.long v1]) (rest := []) ⟨hx, hb, hml, hown, hts⟩ (x_Model_isList l s.heap.size n h_1) (va_cwS 1 hts (tw_GS tw_cons cw_Model_isList lk_Model_95 st_Model_isList ini_Model) rfl rfl rfl hd_Model_isList ⟨Nat.le_of_ble_eq_true rfl, Nat.le_of_ble_eq_true rfl⟩) xpS0 rfl rfl hl.1 rfl (lv_room (Nat.le_of_ble_eq_true rfl)) d_Model_putAll_1 ⟨Nat.le_of_ble_eq_true rfl, Nat.le_of_ble_eq_true rfl⟩) hS (fun q _ h => hFc q h) hFc (fun r9 u9 t9 H locs ht hvm e9 hB hz1 hk1 hS => ?_)
  have e9 : r_2 = r9 := e9
  subst e9
  replace hP := x_keep hP hk1
  clear hFc hk1 hz1 hvm hB ht
  refine lv_if_ne (tgt := 13) hx hb d_Model_putAll_4 (by decide) (fun c_3 => ?_) (fun c_3 => ?_)
  · replace hm := if_f c_3 hm
    refine lv_iconst (v := 0) hx hb d_Model_putAll_13 (by decide) ?_
    refine lv_istore_n (lv' := [(3, .int 0), (0, .ref h), (1, .long v1)]) hx hb d_Model_putAll_14 rfl hl (by decide) rfl (fun ls hl => ?_)
    exact lb_Model_putAll_15 l dC dI cI cJ cB adK adV adA h v n hx hb hml hown hts hK hE hA hr hlocks n _ _ _ _ _ _ hm _ _ _ hP hD hS (lv_sub hl [1, 2, 0] rfl)
  · replace hm := if_t c_3 hm
    refine lv_aload_n hx hb d_Model_putAll_7 rfl (lv_at hl 0 rfl) ?_
    refine lv_lload_n hx hb d_Model_putAll_8 rfl (lv_at hl 1 rfl) ?_
    obtain ⟨i_5, j_6, a_7, b_8, r_9, h_4, hm⟩ := om_some hm
    have hFc := x_free hD hS hA
    refine va_callv (va_runV (As := [.long v1]) (rest := []) ⟨hx, hb, hml, hown, hts⟩ (x_Model_put l dC dI cI cJ cB adK adV adA h v H.size n h_4) (cwV 1 hts (tw_GV tw_cons cw_Model_put lk_Model_465 in_Model_put sel_Model_put ini_Model) rfl rfl rfl ⟨rfl, hd_Model_put⟩ ⟨Nat.le_of_ble_eq_true rfl, Nat.le_of_ble_eq_true rfl⟩) (ypV hK hP hD hS hE hFc yo_12 rfl) rfl rfl hl.1 rfl (lv_room (Nat.le_of_ble_eq_true rfl)) d_Model_putAll_9 ⟨Nat.le_of_ble_eq_true rfl, Nat.le_of_ble_eq_true rfl⟩) hS (fun q _ h => hFc q h) hFc (fun u9 t9 H locs ht hvm e9 hB hz1 hk1 hS => ?_)
    obtain ⟨hP, hD⟩ := y_aft hB ht hFc
    clear hFc hk1 hz1 hvm hB ht
    obtain ⟨e1i, e1j, e1a, e1b, e3⟩ := re4m hm
    obtain ⟨hP, hD⟩ := y_eq e1i e1j e1a e1b hP hD
    exact W.vret hx hb hr (fun t9 ht hW => ⟨⟨(), rfl, trivial, by rw [ht]; exact hP, hD⟩, hS.F ht⟩) hS.2.2 d_Model_putAll_12

def m_Model_local_b27 (n : Nat) : Nat → (Nat → Int32) → (Nat → Int64) → (Nat → Nat → Int32) → (Nat → Nat → Int64) → Int64 → Int32 → Int32 → Option ((Nat → Int32) × (Nat → Int64) × (Nat → Nat → Int32) × (Nat → Nat → Int64) × Int64)
  | 0, _, _, _, _, _, _, _ => none
  | f + 1, i, j, a, b, v1, v3, v4 => ck v3 150 (if (((12 * v3) + (a 113 v3.toNatClampNeg))) ≤ v4 then ck v3 150 (if ((a 113 v3.toNatClampNeg)) = ((12 : Int32)) then om (m_Model_fails n i j a b (8 : Int32)) (fun i_17 j_18 a_19 b_20 r_21 => some (i_17, j_18, a_19, b_20, r_21)) else ck v3 150 (ob0 (m_Model_what n v1) (fun r_7 => ck (((12 * v3) + (a 113 v3.toNatClampNeg))) 1800 (ob1 (sv a 114 ((12 * v3) + (a 113 v3.toNatClampNeg)).toNatClampNeg r_7 : Nat → Nat → Int32) (fun a_9 => ck v3 150 (ck (((12 * v3) + (a_9 113 v3.toNatClampNeg))) 1800 (ob1 (svl b 115 ((12 * v3) + (a_9 113 v3.toNatClampNeg)).toNatClampNeg 3 : Nat → Nat → Int64) (fun b_12 => ck v3 150 (ck v3 150 (ob1 (sv a_9 113 v3.toNatClampNeg ((a_9 113 v3.toNatClampNeg) + 1) : Nat → Nat → Int32) (fun a_15 => some (i, j, a_15, b_12, 3)))))))))))) else ck v4 1800 (ob0 (m_Model_what n v1) (fun r_24 => ob0 (m_Model_sameWord n i j a b (a 114 v4.toNatClampNeg) r_24) (fun r_26 => if r_26 = ((0 : Int32)) then ob1 (v4 + 1 : Int32) (fun x_28 => m_Model_local_b27 n f i j a b v1 v3 x_28) else some (i, j, a, b, 3)))))
set_option maxHeartbeats 4000000 in
set_option maxRecDepth 100000 in
theorem lb_Model_local_27 (l : Launch) (dC : Nat → ClassId) (dI : Nat → Nat → Nat) (cI cJ cB : ClassId) (adK adV adA : Nat → Nat) (h : Nat) (v : Nat → Nat) (n : Nat) {p : Program} {e : Env} {s : State} {m : MethodId} {args : Array Value} {below : List Frame} {meth : Method} {c : Code} {A : Nat → Prop} (hx : p.tables.exec = Jvm.exec) (hb : c.code = b_Model_local) (hml : c.maxLocals = 5) (hown : s.vm.findClass R_Model = some m.cls) (hts : ∀ w ∈ w_Model_local, w.before args s = true) (hK : va_K (dC, dI) classes [(cI, .int), (cJ, .long), (cB, .byte)] s) (hE : tw_E adK adV adA A s s.heap) (hA : ∀ q : Nat, s.heap.size ≤ q → A q) (hr : meth.sig.returnType = (some .long)) (hlocks : meth.locks = false) {i2 : Nat → Int32} {j2 : Nat → Int64} {a2 : Nat → Nat → Int32} {b2 : Nat → Nat → Int64} {r2 : Int64} : ∀ (f : Nat) (i : Nat → Int32) (j : Nat → Int64) (a : Nat → Nat → Int32) (b : Nat → Nat → Int64) (v1 : Int64) (v3 : Int32) (v4 : Int32), m_Model_local_b27 n f i j a b v1 v3 v4 = some (i2, j2, a2, b2, r2) → ∀ (H : Heap) (locs : List Loc) (ls : Array Slot), va_P (dC, dI) classes (MW cI cJ cB h v i j a b) H → va_D A (MW cI cJ cB h v i j a b) → va_S A s.heap H locs → lv_has ls 5 [(0, .ref h), (1, .long v1), (3, .int v3), (4, .int v4)] → W p l e ({ frames := 2, cells := 0, slots := 0, locals := 47 } : Room) s m args below meth c H locs 0 0 (MQ below (va_Ql (xR r2) (yB dC dI cI cJ cB h v i2 j2 a2 b2 A) A) args s 0 0 A) (F0 m 27 ls []) := by
  have htt : ∀ w ∈ tw_T, w.before _ s = true := fun w h => hts w (List.mem_cons_of_mem _ h)
  intro f
  induction f with
  | zero =>
    intro i j a b v1 v3 v4 hm
    rw [m_Model_local_b27] at hm
    cases hm
  | succ f ih =>
    intro i j a b v1 v3 v4 hm H locs ls hP hD hS hl
    rw [m_Model_local_b27] at hm
    refine lv_iload hx hb d_Model_local_27 (lv_at hl 3 rfl) ?_
    refine lv_bipush (v := 12) hx hb d_Model_local_29 (by decide) ?_
    refine lv_iload_n hx hb d_Model_local_31 rfl (lv_at hl 2 rfl) ?_
    refine lv_imul hx hb d_Model_local_32 ?_
    refine lv_aload_n hx hb d_Model_local_33 rfl (lv_at hl 0 rfl) ?_
    refine va_get (D := (dC, dI)) (ci := 12) (v := .ref ((v 113))) (C := R_Model) (T := F_Model) (N := 127) hx hb htt iw_Model hown hK hP 0 yo_12 rfl 113 (Nat.le_of_ble_eq_true rfl) (htt _ lk_Model_307) (fun _ h9 => h9) yg_113 d_Model_local_34 ?_
    refine lv_iload_n hx hb d_Model_local_37 rfl (lv_at hl 2 rfl) ?_
    obtain ⟨h_1, hm⟩ := ck_some hm
    refine va_iald hx hb hK hP 63 0 ya_113 rfl h_1 d_Model_local_38 ?_
    refine lv_iadd hx hb d_Model_local_39 ?_
    refine lv_icmp_ge (tgt := 71) hx hb d_Model_local_40 (by decide) (fun c_2 => ?_) (fun c_2 => ?_)
    · replace hm := if_t c_2 hm
      refine lv_aload_n hx hb d_Model_local_71 rfl (lv_at hl 0 rfl) ?_
      refine va_get (D := (dC, dI)) (ci := 12) (v := .ref ((v 113))) (C := R_Model) (T := F_Model) (N := 127) hx hb htt iw_Model hown hK hP 0 yo_12 rfl 113 (Nat.le_of_ble_eq_true rfl) (htt _ lk_Model_307) (fun _ h9 => h9) yg_113 d_Model_local_72 ?_
      refine lv_iload_n hx hb d_Model_local_75 rfl (lv_at hl 2 rfl) ?_
      obtain ⟨h_3, hm⟩ := ck_some hm
      refine va_iald hx hb hK hP 63 0 ya_113 rfl h_3 d_Model_local_76 ?_
      refine lv_bipush (v := 12) hx hb d_Model_local_77 (by decide) ?_
      refine lv_icmp_ne (tgt := 89) hx hb d_Model_local_79 (by decide) (fun c_4 => ?_) (fun c_4 => ?_)
      · replace hm := if_f c_4 hm
        refine lv_aload_n hx hb d_Model_local_89 rfl (lv_at hl 0 rfl) ?_
        refine va_get (D := (dC, dI)) (ci := 12) (v := .ref ((v 114))) (C := R_Model) (T := F_Model) (N := 127) hx hb htt iw_Model hown hK hP 0 yo_12 rfl 114 (Nat.le_of_ble_eq_true rfl) (htt _ lk_Model_310) (fun _ h9 => h9) yg_114 d_Model_local_90 ?_
        refine lv_bipush (v := 12) hx hb d_Model_local_93 (by decide) ?_
        refine lv_iload_n hx hb d_Model_local_95 rfl (lv_at hl 2 rfl) ?_
        refine lv_imul hx hb d_Model_local_96 ?_
        refine lv_aload_n hx hb d_Model_local_97 rfl (lv_at hl 0 rfl) ?_
        refine va_get (D := (dC, dI)) (ci := 12) (v := .ref ((v 113))) (C := R_Model) (T := F_Model) (N := 127) hx hb htt iw_Model hown hK hP 0 yo_12 rfl 113 (Nat.le_of_ble_eq_true rfl) (htt _ lk_Model_307) (fun _ h9 => h9) yg_113 d_Model_local_98 ?_
        refine lv_iload_n hx hb d_Model_local_101 rfl (lv_at hl 2 rfl) ?_
        obtain ⟨h_5, hm⟩ := ck_some hm
        refine va_iald hx hb hK hP 63 0 ya_113 rfl h_5 d_Model_local_102 ?_
        refine lv_iadd hx hb d_Model_local_103 ?_
        refine lv_lload_n hx hb d_Model_local_104 rfl (lv_at hl 1 rfl) ?_
        obtain ⟨r_7, h_6, hm⟩ := ob0_some hm
        have hFc := x_free0 hS hA
        refine va_calli (va_runS (As := [.long v1]) (rest := [.int ((12 * v3) + (a 113 v3.toNatClampNeg)), .ref ((v 114))]) ⟨hx, hb, hml, hown, hts⟩ (x_Model_what l H.size n h_6) (va_cwS 1 hts (tw_GS tw_cons cw_Model_what lk_Model_64 st_Model_what ini_Model) rfl rfl rfl hd_Model_what ⟨Nat.le_of_ble_eq_true rfl, Nat.le_of_ble_eq_true rfl⟩) xpS0 rfl rfl hl.1 rfl (lv_room (Nat.le_of_ble_eq_true rfl)) d_Model_local_105 ⟨Nat.le_of_ble_eq_true rfl, Nat.le_of_ble_eq_true rfl⟩) hS (fun q _ h => hFc q h) hFc (fun r9 u9 t9 H locs ht hvm e9 hB hz1 hk1 hS => ?_)
        have e9 : r_7 = r9 := e9
        subst e9
        replace hP := x_keep hP hk1
        clear hFc hk1 hz1 hvm hB ht
        obtain ⟨h_8, hm⟩ := ck_some hm
        refine va_iast hx hb hK hP hD hS 64 0 ya_114 rfl h_8 d_Model_local_108 (fun H locs hP hD hS => ?_)
        obtain ⟨a_9, ea_9⟩ : ∃ y9 : Nat → Nat → Int32, y9 = sv a 114 ((12 * v3) + (a 113 v3.toNatClampNeg)).toNatClampNeg r_7 := ⟨_, rfl⟩
        replace hm := ob1_at ea_9 hm
        obtain ⟨hP, hD⟩ := yv_114 ea_9 hP hD
        refine lv_aload_n hx hb d_Model_local_109 rfl (lv_at hl 0 rfl) ?_
        refine va_get (D := (dC, dI)) (ci := 12) (v := .ref ((v 115))) (C := R_Model) (T := F_Model) (N := 127) hx hb htt iw_Model hown hK hP 0 yo_12 rfl 115 (Nat.le_of_ble_eq_true rfl) (htt _ lk_Model_313) (fun _ h9 => h9) yg_115 d_Model_local_110 ?_
        refine lv_bipush (v := 12) hx hb d_Model_local_113 (by decide) ?_
        refine lv_iload_n hx hb d_Model_local_115 rfl (lv_at hl 2 rfl) ?_
        refine lv_imul hx hb d_Model_local_116 ?_
        refine lv_aload_n hx hb d_Model_local_117 rfl (lv_at hl 0 rfl) ?_
        refine va_get (D := (dC, dI)) (ci := 12) (v := .ref ((v 113))) (C := R_Model) (T := F_Model) (N := 127) hx hb htt iw_Model hown hK hP 0 yo_12 rfl 113 (Nat.le_of_ble_eq_true rfl) (htt _ lk_Model_307) (fun _ h9 => h9) yg_113 d_Model_local_118 ?_
        refine lv_iload_n hx hb d_Model_local_121 rfl (lv_at hl 2 rfl) ?_
        obtain ⟨h_10, hm⟩ := ck_some hm
        refine va_iald hx hb hK hP 63 0 ya_113 rfl h_10 d_Model_local_122 ?_
        refine lv_iadd hx hb d_Model_local_123 ?_
        refine lv_ldc2 (v := 3) hx hb hown (htt _ lk_Model_7) d_Model_local_124 ?_
        obtain ⟨h_11, hm⟩ := ck_some hm
        refine va_last hx hb hK hP hD hS 65 1 ya_115 rfl h_11 d_Model_local_127 (fun H locs hP hD hS => ?_)
        obtain ⟨b_12, eb_12⟩ : ∃ y9 : Nat → Nat → Int64, y9 = svl b 115 ((12 * v3) + (a_9 113 v3.toNatClampNeg)).toNatClampNeg 3 := ⟨_, rfl⟩
        replace hm := ob1_at eb_12 hm
        obtain ⟨hP, hD⟩ := yv_115 eb_12 hP hD
        refine lv_aload_n hx hb d_Model_local_128 rfl (lv_at hl 0 rfl) ?_
        refine va_get (D := (dC, dI)) (ci := 12) (v := .ref ((v 113))) (C := R_Model) (T := F_Model) (N := 127) hx hb htt iw_Model hown hK hP 0 yo_12 rfl 113 (Nat.le_of_ble_eq_true rfl) (htt _ lk_Model_307) (fun _ h9 => h9) yg_113 d_Model_local_129 ?_
        refine lv_iload_n hx hb d_Model_local_132 rfl (lv_at hl 2 rfl) ?_
        refine lv_dup2_11 hx hb d_Model_local_133 rfl rfl ?_
        obtain ⟨h_13, hm⟩ := ck_some hm
        refine va_iald hx hb hK hP 63 0 ya_113 rfl h_13 d_Model_local_134 ?_
        refine lv_iconst (v := 1) hx hb d_Model_local_135 (by decide) ?_
        refine lv_iadd hx hb d_Model_local_136 ?_
        obtain ⟨h_14, hm⟩ := ck_some hm
        refine va_iast hx hb hK hP hD hS 63 0 ya_113 rfl h_14 d_Model_local_137 (fun H locs hP hD hS => ?_)
        obtain ⟨a_15, ea_15⟩ : ∃ y9 : Nat → Nat → Int32, y9 = sv a_9 113 v3.toNatClampNeg ((a_9 113 v3.toNatClampNeg) + 1) := ⟨_, rfl⟩
        replace hm := ob1_at ea_15 hm
        obtain ⟨hP, hD⟩ := yv_113 ea_15 hP hD
        refine lv_ldc2 (v := 3) hx hb hown (htt _ lk_Model_7) d_Model_local_138 ?_
        obtain ⟨e1i, e1j, e1a, e1b, e3⟩ := re4m hm
        obtain ⟨hP, hD⟩ := y_eq e1i e1j e1a e1b hP hD
        exact W.lret hx hb hr (fun t9 ht hW => ⟨⟨_, (), rfl, e3.symm, by rw [ht]; exact hP, hD⟩, hS.F ht⟩) hS.2.2 d_Model_local_141
      · replace hm := if_t c_4 hm
        refine lv_aload_n hx hb d_Model_local_82 rfl (lv_at hl 0 rfl) ?_
        refine lv_bipush (v := 8) hx hb d_Model_local_83 (by decide) ?_
        obtain ⟨i_17, j_18, a_19, b_20, r_21, h_16, hm⟩ := om_some hm
        have hFc := x_free hD hS hA
        refine va_calll (va_runV (As := [.int 8]) (rest := []) ⟨hx, hb, hml, hown, hts⟩ (x_Model_fails l dC dI cI cJ cB adK adV adA h v H.size n h_16) (cwV 1 hts (tw_GV tw_cons cw_Model_fails lk_Model_596 in_Model_fails sel_Model_fails ini_Model) rfl rfl rfl ⟨rfl, hd_Model_fails⟩ ⟨Nat.le_of_ble_eq_true rfl, Nat.le_of_ble_eq_true rfl⟩) (ypV hK hP hD hS hE hFc yo_12 rfl) rfl rfl hl.1 rfl (lv_room (Nat.le_of_ble_eq_true rfl)) d_Model_local_85 ⟨Nat.le_of_ble_eq_true rfl, Nat.le_of_ble_eq_true rfl⟩) hS (fun q _ h => hFc q h) hFc (fun r9 u9 t9 H locs ht hvm e9 hB hz1 hk1 hS => ?_)
        have e9 : r_21 = r9 := e9
        subst e9
        obtain ⟨hP, hD⟩ := y_aft hB ht hFc
        clear hFc hk1 hz1 hvm hB ht
        obtain ⟨e1i, e1j, e1a, e1b, e3⟩ := re4m hm
        obtain ⟨hP, hD⟩ := y_eq e1i e1j e1a e1b hP hD
        exact W.lret hx hb hr (fun t9 ht hW => ⟨⟨_, (), rfl, e3.symm, by rw [ht]; exact hP, hD⟩, hS.F ht⟩) hS.2.2 d_Model_local_88
    · replace hm := if_f c_2 hm
      refine lv_aload_n hx hb d_Model_local_43 rfl (lv_at hl 0 rfl) ?_
      refine lv_aload_n hx hb d_Model_local_44 rfl (lv_at hl 0 rfl) ?_
      refine va_get (D := (dC, dI)) (ci := 12) (v := .ref ((v 114))) (C := R_Model) (T := F_Model) (N := 127) hx hb htt iw_Model hown hK hP 0 yo_12 rfl 114 (Nat.le_of_ble_eq_true rfl) (htt _ lk_Model_310) (fun _ h9 => h9) yg_114 d_Model_local_45 ?_
      refine lv_iload hx hb d_Model_local_48 (lv_at hl 3 rfl) ?_
      obtain ⟨h_22, hm⟩ := ck_some hm
      refine va_iald hx hb hK hP 64 0 ya_114 rfl h_22 d_Model_local_50 ?_
      refine lv_lload_n hx hb d_Model_local_51 rfl (lv_at hl 1 rfl) ?_
      obtain ⟨r_24, h_23, hm⟩ := ob0_some hm
      have hFc := x_free0 hS hA
      refine va_calli (va_runS (As := [.long v1]) (rest := [.int (a 114 v4.toNatClampNeg), .ref h]) ⟨hx, hb, hml, hown, hts⟩ (x_Model_what l H.size n h_23) (va_cwS 1 hts (tw_GS tw_cons cw_Model_what lk_Model_64 st_Model_what ini_Model) rfl rfl rfl hd_Model_what ⟨Nat.le_of_ble_eq_true rfl, Nat.le_of_ble_eq_true rfl⟩) xpS0 rfl rfl hl.1 rfl (lv_room (Nat.le_of_ble_eq_true rfl)) d_Model_local_52 ⟨Nat.le_of_ble_eq_true rfl, Nat.le_of_ble_eq_true rfl⟩) hS (fun q _ h => hFc q h) hFc (fun r9 u9 t9 H locs ht hvm e9 hB hz1 hk1 hS => ?_)
      have e9 : r_24 = r9 := e9
      subst e9
      replace hP := x_keep hP hk1
      clear hFc hk1 hz1 hvm hB ht
      obtain ⟨r_26, h_25, hm⟩ := ob0_some hm
      have hFc := x_free0 hS hA
      refine va_calli (va_runV (As := [.int (a 114 v4.toNatClampNeg), .int r_24]) (rest := []) ⟨hx, hb, hml, hown, hts⟩ (x_Model_sameWord l dC dI cI cJ cB adK adV adA h v H.size n h_25) (cwV 2 hts (tw_GV tw_cons cw_Model_sameWord lk_Model_91 in_Model_sameWord sel_Model_sameWord ini_Model) rfl rfl rfl ⟨rfl, hd_Model_sameWord⟩ ⟨Nat.le_of_ble_eq_true rfl, Nat.le_of_ble_eq_true rfl⟩) (ypVr hK hP hS hE hFc yo_12 rfl) rfl rfl hl.1 rfl (lv_room (Nat.le_of_ble_eq_true rfl)) d_Model_local_55 ⟨Nat.le_of_ble_eq_true rfl, Nat.le_of_ble_eq_true rfl⟩) hS (fun q _ h => hFc q h) hFc (fun r9 u9 t9 H locs ht hvm e9 hB hz1 hk1 hS => ?_)
      have e9 : r_26 = r9 := e9
      subst e9
      replace hP := x_keep hP hk1
      clear hFc hk1 hz1 hvm hB ht
      refine lv_if_eq (tgt := 65) hx hb d_Model_local_58 (by decide) (fun c_27 => ?_) (fun c_27 => ?_)
      · replace hm := if_t c_27 hm
        obtain ⟨x_28, ex_28⟩ : ∃ y9 : Int32, y9 = v4 + 1 := ⟨_, rfl⟩
        replace hm := ob1_at ex_28 hm
        refine lv_iinc (v := x_28) (lv' := [(4, .int x_28), (0, .ref h), (1, .long v1), (3, .int v3)]) hx hb d_Model_local_65 hl (k := 3) rfl (by rw [ex_28]; rfl) (by decide) rfl (fun ls hl => ?_)
        refine lv_goto (tgt := 27) hx hb d_Model_local_68 (by decide) ?_
        exact ih _ _ _ _ _ _ _ hm _ _ _ hP hD hS (lv_sub hl [1, 2, 3, 0] rfl)
      · replace hm := if_f c_27 hm
        refine lv_ldc2 (v := 3) hx hb hown (htt _ lk_Model_7) d_Model_local_61 ?_
        obtain ⟨e1i, e1j, e1a, e1b, e3⟩ := re4m hm
        obtain ⟨hP, hD⟩ := y_eq e1i e1j e1a e1b hP hD
        exact W.lret hx hb hr (fun t9 ht hW => ⟨⟨_, (), rfl, e3.symm, by rw [ht]; exact hP, hD⟩, hS.F ht⟩) hS.2.2 d_Model_local_64
def m_Model_local (n : Nat) (i : Nat → Int32) (j : Nat → Int64) (a : Nat → Nat → Int32) (b : Nat → Nat → Int64) (v1 : Int64) : Option ((Nat → Int32) × (Nat → Int64) × (Nat → Nat → Int32) × (Nat → Nat → Int64) × Int64) := if ((i 99)) = ((0 : Int32)) then om (m_Model_fails n i j a b (12 : Int32)) (fun i_5 j_6 a_7 b_8 r_9 => some (i_5, j_6, a_7, b_8, r_9)) else ob1 ((i 99) - 1 : Int32) (fun x_2 => ob1 (12 * x_2 : Int32) (fun x_3 => m_Model_local_b27 n n i j a b v1 x_2 x_3))
set_option maxHeartbeats 4000000 in
set_option maxRecDepth 100000 in
theorem x_Model_local (l : Launch) (dC : Nat → ClassId) (dI : Nat → Nat → Nat) (cI cJ cB : ClassId) (adK adV adA : Nat → Nat) (h : Nat) (v : Nat → Nat) (sz : Nat) (n : Nat) {i : Nat → Int32} {j : Nat → Int64} {a : Nat → Nat → Int32} {b : Nat → Nat → Int64} {v1 : Int64} {i2 : Nat → Int32} {j2 : Nat → Int64} {a2 : Nat → Nat → Int32} {b2 : Nat → Nat → Int64} {r2 : Int64} (hm : m_Model_local n i j a b v1 = some (i2, j2, a2, b2, r2)) : Met l y_Model_local w_Model_local ({ frames := 2, cells := 0, slots := 0, locals := 47 } : Room) (va_Pc [.ref h, .long v1] (yE dC dI cI cJ cB adK adV adA h v i j a b sz)) (va_Ql (xR r2) (yB dC dI cI cJ cB h v i2 j2 a2 b2 (va_A (MW cI cJ cB h v i j a b) sz)) (va_A (MW cI cJ cB h v i j a b) sz)) 0 0 ((va_A (MW cI cJ cB h v i j a b) sz)) := by
  refine Met.ofW (cc := b_Model_local) (maxL := 5) (ret := (some .long)) (by decide) rfl ?_
  intro p e s m args below meth c s₁ B hml hv
  obtain ⟨rfl, hsz, hP, hK, hE, hD0⟩ := hv
  have hx := B.exec
  have hb := B.bytes
  have hr := B.returns
  have hts := atoms_spec (ws := w_Model_local) B.pre
  have htt : ∀ w ∈ tw_T, w.before _ s = true := fun w h => hts w (List.mem_cons_of_mem _ h)
  have hown : s.vm.findClass R_Model = some m.cls := findClass_of_methodNamed B.named
  have hlocks := B.notSynchronized
  subst hsz
  have hD := hD0.self (sz := s.heap.size)
  generalize hAe : (va_A (MW cI cJ cB h v i j a b) s.heap.size) = A at hD hE ⊢
  have hA : ∀ q : Nat, s.heap.size ≤ q → A q := fun q h => by rw [← hAe]; exact Or.inr h
  have hS : va_S A s.heap s.heap [] := va_S.rf
  have hl := lv_entry ([.ref h, .long v1]) (n := 5) (Nat.le_of_ble_eq_true rfl)
  rw [lg_entry_eq]
  generalize (lg_sl ([.ref h, .long v1]) ++ List.replicate (5 - (lg_sl ([.ref h, .long v1])).length) Slot.unset).toArray = ls at hl ⊢
  have hl : lv_has ls 5 [(0, .ref h), (1, .long v1)] := hl
  rw [m_Model_local] at hm
  refine lv_aload_n hx hb d_Model_local_0 rfl (lv_at hl 0 rfl) ?_
  refine va_get (D := (dC, dI)) (ci := 12) (v := .int (i 99)) (C := R_Model) (T := F_Model) (N := 127) hx hb htt iw_Model hown hK hP 0 yo_12 rfl 99 (Nat.le_of_ble_eq_true rfl) (htt _ lk_Model_538) (fun _ h9 => h9) yg_99 d_Model_local_1 ?_
  refine lv_if_ne (tgt := 14) hx hb d_Model_local_4 (by decide) (fun c_1 => ?_) (fun c_1 => ?_)
  · replace hm := if_f c_1 hm
    refine lv_aload_n hx hb d_Model_local_14 rfl (lv_at hl 0 rfl) ?_
    refine va_get (D := (dC, dI)) (ci := 12) (v := .int (i 99)) (C := R_Model) (T := F_Model) (N := 127) hx hb htt iw_Model hown hK hP 0 yo_12 rfl 99 (Nat.le_of_ble_eq_true rfl) (htt _ lk_Model_538) (fun _ h9 => h9) yg_99 d_Model_local_15 ?_
    refine lv_iconst (v := 1) hx hb d_Model_local_18 (by decide) ?_
    refine lv_isub hx hb d_Model_local_19 ?_
    refine lv_topi (fun x_2 ex_2 => ?_)
    replace hm := ob1_at ex_2 hm
    refine lv_istore_n (lv' := [(3, .int x_2), (0, .ref h), (1, .long v1)]) hx hb d_Model_local_20 rfl hl (by decide) rfl (fun ls hl => ?_)
    refine lv_bipush (v := 12) hx hb d_Model_local_21 (by decide) ?_
    refine lv_iload_n hx hb d_Model_local_23 rfl (lv_at hl 0 rfl) ?_
    refine lv_imul hx hb d_Model_local_24 ?_
    refine lv_topi (fun x_3 ex_3 => ?_)
    replace hm := ob1_at ex_3 hm
    refine lv_istore (lv' := [(4, .int x_3), (3, .int x_2), (0, .ref h), (1, .long v1)]) hx hb d_Model_local_25 hl (by decide) rfl (fun ls hl => ?_)
    exact lb_Model_local_27 l dC dI cI cJ cB adK adV adA h v n hx hb hml hown hts hK hE hA hr hlocks n _ _ _ _ _ _ _ hm _ _ _ hP hD hS (lv_sub hl [2, 3, 1, 0] rfl)
  · replace hm := if_t c_1 hm
    refine lv_aload_n hx hb d_Model_local_7 rfl (lv_at hl 0 rfl) ?_
    refine lv_bipush (v := 12) hx hb d_Model_local_8 (by decide) ?_
    obtain ⟨i_5, j_6, a_7, b_8, r_9, h_4, hm⟩ := om_some hm
    have hFc := x_free hD hS hA
    refine va_calll (va_runV (As := [.int 12]) (rest := []) ⟨hx, hb, hml, hown, hts⟩ (x_Model_fails l dC dI cI cJ cB adK adV adA h v s.heap.size n h_4) (cwV 1 hts (tw_GV tw_cons cw_Model_fails lk_Model_596 in_Model_fails sel_Model_fails ini_Model) rfl rfl rfl ⟨rfl, hd_Model_fails⟩ ⟨Nat.le_of_ble_eq_true rfl, Nat.le_of_ble_eq_true rfl⟩) (ypV hK hP hD hS hE hFc yo_12 rfl) rfl rfl hl.1 rfl (lv_room (Nat.le_of_ble_eq_true rfl)) d_Model_local_10 ⟨Nat.le_of_ble_eq_true rfl, Nat.le_of_ble_eq_true rfl⟩) hS (fun q _ h => hFc q h) hFc (fun r9 u9 t9 H locs ht hvm e9 hB hz1 hk1 hS => ?_)
    have e9 : r_9 = r9 := e9
    subst e9
    obtain ⟨hP, hD⟩ := y_aft hB ht hFc
    clear hFc hk1 hz1 hvm hB ht
    obtain ⟨e1i, e1j, e1a, e1b, e3⟩ := re4m hm
    obtain ⟨hP, hD⟩ := y_eq e1i e1j e1a e1b hP hD
    exact W.lret hx hb hr (fun t9 ht hW => ⟨⟨_, (), rfl, e3.symm, by rw [ht]; exact hP, hD⟩, hS.F ht⟩) hS.2.2 d_Model_local_13

def m_Model_throwing_b2 (n : Nat) : Nat → (Nat → Int32) → (Nat → Int64) → (Nat → Nat → Int32) → (Nat → Nat → Int64) → Int64 → Int32 → Option ((Nat → Int32) × (Nat → Int64) × (Nat → Nat → Int32) × (Nat → Nat → Int64) × Int64)
  | 0, _, _, _, _, _, _ => none
  | f + 1, i, j, a, b, v1, v3 => if ((i 118)) ≤ v3 then om (m_Model_fails n i j a b (11 : Int32)) (fun i_3 j_4 a_5 b_6 r_7 => some (i_3, j_4, a_5, b_6, r_7)) else ck v3 151 (ob0 (m_Model_what n (b 123 v3.toNatClampNeg)) (fun r_10 => ob0 (m_Model_what n v1) (fun r_12 => ob0 (m_Model_sameWord n i j a b r_10 r_12) (fun r_14 => if r_14 = ((0 : Int32)) then ob1 (v3 + 1 : Int32) (fun x_16 => m_Model_throwing_b2 n f i j a b v1 x_16) else ob1 (upd i 102 3 : Nat → Int32) (fun i_17 => ob1 (vp_updL j 109 v1 : Nat → Int64) (fun j_18 => some (i_17, j_18, a, b, 3)))))))
set_option maxHeartbeats 4000000 in
set_option maxRecDepth 100000 in
theorem lb_Model_throwing_2 (l : Launch) (dC : Nat → ClassId) (dI : Nat → Nat → Nat) (cI cJ cB : ClassId) (adK adV adA : Nat → Nat) (h : Nat) (v : Nat → Nat) (n : Nat) {p : Program} {e : Env} {s : State} {m : MethodId} {args : Array Value} {below : List Frame} {meth : Method} {c : Code} {A : Nat → Prop} (hx : p.tables.exec = Jvm.exec) (hb : c.code = b_Model_throwing) (hml : c.maxLocals = 4) (hown : s.vm.findClass R_Model = some m.cls) (hts : ∀ w ∈ w_Model_throwing, w.before args s = true) (hK : va_K (dC, dI) classes [(cI, .int), (cJ, .long), (cB, .byte)] s) (hE : tw_E adK adV adA A s s.heap) (hA : ∀ q : Nat, s.heap.size ≤ q → A q) (hr : meth.sig.returnType = (some .long)) (hlocks : meth.locks = false) {i2 : Nat → Int32} {j2 : Nat → Int64} {a2 : Nat → Nat → Int32} {b2 : Nat → Nat → Int64} {r2 : Int64} : ∀ (f : Nat) (i : Nat → Int32) (j : Nat → Int64) (a : Nat → Nat → Int32) (b : Nat → Nat → Int64) (v1 : Int64) (v3 : Int32), m_Model_throwing_b2 n f i j a b v1 v3 = some (i2, j2, a2, b2, r2) → ∀ (H : Heap) (locs : List Loc) (ls : Array Slot), va_P (dC, dI) classes (MW cI cJ cB h v i j a b) H → va_D A (MW cI cJ cB h v i j a b) → va_S A s.heap H locs → lv_has ls 4 [(0, .ref h), (1, .long v1), (3, .int v3)] → W p l e ({ frames := 2, cells := 0, slots := 0, locals := 47 } : Room) s m args below meth c H locs 0 0 (MQ below (va_Ql (xR r2) (yB dC dI cI cJ cB h v i2 j2 a2 b2 A) A) args s 0 0 A) (F0 m 2 ls []) := by
  have htt : ∀ w ∈ tw_T, w.before _ s = true := fun w h => hts w (List.mem_cons_of_mem _ h)
  intro f
  induction f with
  | zero =>
    intro i j a b v1 v3 hm
    rw [m_Model_throwing_b2] at hm
    cases hm
  | succ f ih =>
    intro i j a b v1 v3 hm H locs ls hP hD hS hl
    rw [m_Model_throwing_b2] at hm
    refine lv_iload_n hx hb d_Model_throwing_2 rfl (lv_at hl 2 rfl) ?_
    refine lv_aload_n hx hb d_Model_throwing_3 rfl (lv_at hl 0 rfl) ?_
    refine va_get (D := (dC, dI)) (ci := 12) (v := .int (i 118)) (C := R_Model) (T := F_Model) (N := 127) hx hb htt iw_Model hown hK hP 0 yo_12 rfl 118 (Nat.le_of_ble_eq_true rfl) (htt _ lk_Model_571) (fun _ h9 => h9) yg_118 d_Model_throwing_4 ?_
    refine lv_icmp_ge (tgt := 50) hx hb d_Model_throwing_7 (by decide) (fun c_1 => ?_) (fun c_1 => ?_)
    · replace hm := if_t c_1 hm
      refine lv_aload_n hx hb d_Model_throwing_50 rfl (lv_at hl 0 rfl) ?_
      refine lv_bipush (v := 11) hx hb d_Model_throwing_51 (by decide) ?_
      obtain ⟨i_3, j_4, a_5, b_6, r_7, h_2, hm⟩ := om_some hm
      have hFc := x_free hD hS hA
      refine va_calll (va_runV (As := [.int 11]) (rest := []) ⟨hx, hb, hml, hown, hts⟩ (x_Model_fails l dC dI cI cJ cB adK adV adA h v H.size n h_2) (cwV 1 hts (tw_GV tw_cons cw_Model_fails lk_Model_596 in_Model_fails sel_Model_fails ini_Model) rfl rfl rfl ⟨rfl, hd_Model_fails⟩ ⟨Nat.le_of_ble_eq_true rfl, Nat.le_of_ble_eq_true rfl⟩) (ypV hK hP hD hS hE hFc yo_12 rfl) rfl rfl hl.1 rfl (lv_room (Nat.le_of_ble_eq_true rfl)) d_Model_throwing_53 ⟨Nat.le_of_ble_eq_true rfl, Nat.le_of_ble_eq_true rfl⟩) hS (fun q _ h => hFc q h) hFc (fun r9 u9 t9 H locs ht hvm e9 hB hz1 hk1 hS => ?_)
      have e9 : r_7 = r9 := e9
      subst e9
      obtain ⟨hP, hD⟩ := y_aft hB ht hFc
      clear hFc hk1 hz1 hvm hB ht
      obtain ⟨e1i, e1j, e1a, e1b, e3⟩ := re4m hm
      obtain ⟨hP, hD⟩ := y_eq e1i e1j e1a e1b hP hD
      exact W.lret hx hb hr (fun t9 ht hW => ⟨⟨_, (), rfl, e3.symm, by rw [ht]; exact hP, hD⟩, hS.F ht⟩) hS.2.2 d_Model_throwing_56
    · replace hm := if_f c_1 hm
      refine lv_aload_n hx hb d_Model_throwing_10 rfl (lv_at hl 0 rfl) ?_
      refine lv_aload_n hx hb d_Model_throwing_11 rfl (lv_at hl 0 rfl) ?_
      refine va_get (D := (dC, dI)) (ci := 12) (v := .ref ((v 123))) (C := R_Model) (T := F_Model) (N := 127) hx hb htt iw_Model hown hK hP 0 yo_12 rfl 123 (Nat.le_of_ble_eq_true rfl) (htt _ lk_Model_328) (fun _ h9 => h9) yg_123 d_Model_throwing_12 ?_
      refine lv_iload_n hx hb d_Model_throwing_15 rfl (lv_at hl 2 rfl) ?_
      obtain ⟨h_8, hm⟩ := ck_some hm
      refine va_lald hx hb hK hP 70 1 ya_123 rfl h_8 d_Model_throwing_16 ?_
      obtain ⟨r_10, h_9, hm⟩ := ob0_some hm
      have hFc := x_free0 hS hA
      refine va_calli (va_runS (As := [.long (b 123 v3.toNatClampNeg)]) (rest := [.ref h]) ⟨hx, hb, hml, hown, hts⟩ (x_Model_what l H.size n h_9) (va_cwS 1 hts (tw_GS tw_cons cw_Model_what lk_Model_64 st_Model_what ini_Model) rfl rfl rfl hd_Model_what ⟨Nat.le_of_ble_eq_true rfl, Nat.le_of_ble_eq_true rfl⟩) xpS0 rfl rfl hl.1 rfl (lv_room (Nat.le_of_ble_eq_true rfl)) d_Model_throwing_17 ⟨Nat.le_of_ble_eq_true rfl, Nat.le_of_ble_eq_true rfl⟩) hS (fun q _ h => hFc q h) hFc (fun r9 u9 t9 H locs ht hvm e9 hB hz1 hk1 hS => ?_)
      have e9 : r_10 = r9 := e9
      subst e9
      replace hP := x_keep hP hk1
      clear hFc hk1 hz1 hvm hB ht
      refine lv_lload_n hx hb d_Model_throwing_20 rfl (lv_at hl 1 rfl) ?_
      obtain ⟨r_12, h_11, hm⟩ := ob0_some hm
      have hFc := x_free0 hS hA
      refine va_calli (va_runS (As := [.long v1]) (rest := [.int r_10, .ref h]) ⟨hx, hb, hml, hown, hts⟩ (x_Model_what l H.size n h_11) (va_cwS 1 hts (tw_GS tw_cons cw_Model_what lk_Model_64 st_Model_what ini_Model) rfl rfl rfl hd_Model_what ⟨Nat.le_of_ble_eq_true rfl, Nat.le_of_ble_eq_true rfl⟩) xpS0 rfl rfl hl.1 rfl (lv_room (Nat.le_of_ble_eq_true rfl)) d_Model_throwing_21 ⟨Nat.le_of_ble_eq_true rfl, Nat.le_of_ble_eq_true rfl⟩) hS (fun q _ h => hFc q h) hFc (fun r9 u9 t9 H locs ht hvm e9 hB hz1 hk1 hS => ?_)
      have e9 : r_12 = r9 := e9
      subst e9
      replace hP := x_keep hP hk1
      clear hFc hk1 hz1 hvm hB ht
      obtain ⟨r_14, h_13, hm⟩ := ob0_some hm
      have hFc := x_free0 hS hA
      refine va_calli (va_runV (As := [.int r_10, .int r_12]) (rest := []) ⟨hx, hb, hml, hown, hts⟩ (x_Model_sameWord l dC dI cI cJ cB adK adV adA h v H.size n h_13) (cwV 2 hts (tw_GV tw_cons cw_Model_sameWord lk_Model_91 in_Model_sameWord sel_Model_sameWord ini_Model) rfl rfl rfl ⟨rfl, hd_Model_sameWord⟩ ⟨Nat.le_of_ble_eq_true rfl, Nat.le_of_ble_eq_true rfl⟩) (ypVr hK hP hS hE hFc yo_12 rfl) rfl rfl hl.1 rfl (lv_room (Nat.le_of_ble_eq_true rfl)) d_Model_throwing_24 ⟨Nat.le_of_ble_eq_true rfl, Nat.le_of_ble_eq_true rfl⟩) hS (fun q _ h => hFc q h) hFc (fun r9 u9 t9 H locs ht hvm e9 hB hz1 hk1 hS => ?_)
      have e9 : r_14 = r9 := e9
      subst e9
      replace hP := x_keep hP hk1
      clear hFc hk1 hz1 hvm hB ht
      refine lv_if_eq (tgt := 44) hx hb d_Model_throwing_27 (by decide) (fun c_15 => ?_) (fun c_15 => ?_)
      · replace hm := if_t c_15 hm
        obtain ⟨x_16, ex_16⟩ : ∃ y9 : Int32, y9 = v3 + 1 := ⟨_, rfl⟩
        replace hm := ob1_at ex_16 hm
        refine lv_iinc (v := x_16) (lv' := [(3, .int x_16), (0, .ref h), (1, .long v1)]) hx hb d_Model_throwing_44 hl (k := 2) rfl (by rw [ex_16]; rfl) (by decide) rfl (fun ls hl => ?_)
        refine lv_goto (tgt := 2) hx hb d_Model_throwing_47 (by decide) ?_
        exact ih _ _ _ _ _ _ hm _ _ _ hP hD hS (lv_sub hl [1, 2, 0] rfl)
      · replace hm := if_f c_15 hm
        refine lv_aload_n hx hb d_Model_throwing_30 rfl (lv_at hl 0 rfl) ?_
        refine lv_iconst (v := 3) hx hb d_Model_throwing_31 (by decide) ?_
        refine va_put (D := (dC, dI)) (ci := 12) (v := .int 3) (ty := .int) (C := R_Model) (T := F_Model) (N := 127) hx hb htt iw_Model t_Model t_Model_ok n_Model hown hK hP hD hS 0 yo_12 rfl 102 (Nat.le_of_ble_eq_true rfl) (htt _ lk_Model_559) (fun _ h9 => h9) rfl (by decide +kernel) rfl rfl yl_102 d_Model_throwing_32 (fun H locs hP hD hS => ?_)
        obtain ⟨i_17, ei_17⟩ : ∃ y9 : Nat → Int32, y9 = upd i 102 3 := ⟨_, rfl⟩
        replace hm := ob1_at ei_17 hm
        obtain ⟨hP, hD⟩ := yw_102 ei_17 hP hD
        refine lv_aload_n hx hb d_Model_throwing_35 rfl (lv_at hl 0 rfl) ?_
        refine lv_lload_n hx hb d_Model_throwing_36 rfl (lv_at hl 1 rfl) ?_
        refine va_put (D := (dC, dI)) (ci := 12) (v := .long v1) (ty := .long) (C := R_Model) (T := F_Model) (N := 127) hx hb htt iw_Model t_Model t_Model_ok n_Model hown hK hP hD hS 0 yo_12 rfl 109 (Nat.le_of_ble_eq_true rfl) (htt _ lk_Model_655) (fun _ h9 => h9) rfl (by decide +kernel) rfl rfl yl_109 d_Model_throwing_37 (fun H locs hP hD hS => ?_)
        obtain ⟨j_18, ej_18⟩ : ∃ y9 : Nat → Int64, y9 = vp_updL j 109 v1 := ⟨_, rfl⟩
        replace hm := ob1_at ej_18 hm
        obtain ⟨hP, hD⟩ := yw_109 ej_18 hP hD
        refine lv_ldc2 (v := 3) hx hb hown (htt _ lk_Model_7) d_Model_throwing_40 ?_
        obtain ⟨e1i, e1j, e1a, e1b, e3⟩ := re4m hm
        obtain ⟨hP, hD⟩ := y_eq e1i e1j e1a e1b hP hD
        exact W.lret hx hb hr (fun t9 ht hW => ⟨⟨_, (), rfl, e3.symm, by rw [ht]; exact hP, hD⟩, hS.F ht⟩) hS.2.2 d_Model_throwing_43
def m_Model_throwing (n : Nat) (i : Nat → Int32) (j : Nat → Int64) (a : Nat → Nat → Int32) (b : Nat → Nat → Int64) (v1 : Int64) : Option ((Nat → Int32) × (Nat → Int64) × (Nat → Nat → Int32) × (Nat → Nat → Int64) × Int64) := m_Model_throwing_b2 n n i j a b v1 (0 : Int32)
set_option maxHeartbeats 4000000 in
set_option maxRecDepth 100000 in
theorem x_Model_throwing (l : Launch) (dC : Nat → ClassId) (dI : Nat → Nat → Nat) (cI cJ cB : ClassId) (adK adV adA : Nat → Nat) (h : Nat) (v : Nat → Nat) (sz : Nat) (n : Nat) {i : Nat → Int32} {j : Nat → Int64} {a : Nat → Nat → Int32} {b : Nat → Nat → Int64} {v1 : Int64} {i2 : Nat → Int32} {j2 : Nat → Int64} {a2 : Nat → Nat → Int32} {b2 : Nat → Nat → Int64} {r2 : Int64} (hm : m_Model_throwing n i j a b v1 = some (i2, j2, a2, b2, r2)) : Met l y_Model_throwing w_Model_throwing ({ frames := 2, cells := 0, slots := 0, locals := 47 } : Room) (va_Pc [.ref h, .long v1] (yE dC dI cI cJ cB adK adV adA h v i j a b sz)) (va_Ql (xR r2) (yB dC dI cI cJ cB h v i2 j2 a2 b2 (va_A (MW cI cJ cB h v i j a b) sz)) (va_A (MW cI cJ cB h v i j a b) sz)) 0 0 ((va_A (MW cI cJ cB h v i j a b) sz)) := by
  refine Met.ofW (cc := b_Model_throwing) (maxL := 4) (ret := (some .long)) (by decide) rfl ?_
  intro p e s m args below meth c s₁ B hml hv
  obtain ⟨rfl, hsz, hP, hK, hE, hD0⟩ := hv
  have hx := B.exec
  have hb := B.bytes
  have hr := B.returns
  have hts := atoms_spec (ws := w_Model_throwing) B.pre
  have htt : ∀ w ∈ tw_T, w.before _ s = true := fun w h => hts w (List.mem_cons_of_mem _ h)
  have hown : s.vm.findClass R_Model = some m.cls := findClass_of_methodNamed B.named
  have hlocks := B.notSynchronized
  subst hsz
  have hD := hD0.self (sz := s.heap.size)
  generalize hAe : (va_A (MW cI cJ cB h v i j a b) s.heap.size) = A at hD hE ⊢
  have hA : ∀ q : Nat, s.heap.size ≤ q → A q := fun q h => by rw [← hAe]; exact Or.inr h
  have hS : va_S A s.heap s.heap [] := va_S.rf
  have hl := lv_entry ([.ref h, .long v1]) (n := 4) (Nat.le_of_ble_eq_true rfl)
  rw [lg_entry_eq]
  generalize (lg_sl ([.ref h, .long v1]) ++ List.replicate (4 - (lg_sl ([.ref h, .long v1])).length) Slot.unset).toArray = ls at hl ⊢
  have hl : lv_has ls 4 [(0, .ref h), (1, .long v1)] := hl
  rw [m_Model_throwing] at hm
  refine lv_iconst (v := 0) hx hb d_Model_throwing_0 (by decide) ?_
  refine lv_istore_n (lv' := [(3, .int 0), (0, .ref h), (1, .long v1)]) hx hb d_Model_throwing_1 rfl hl (by decide) rfl (fun ls hl => ?_)
  exact lb_Model_throwing_2 l dC dI cI cJ cB adK adV adA h v n hx hb hml hown hts hK hE hA hr hlocks n _ _ _ _ _ _ hm _ _ _ hP hD hS (lv_sub hl [1, 2, 0] rfl)

def m_Model_signAhead_b138 (n : Nat) (i : Nat → Int32) (j : Nat → Int64) (a : Nat → Nat → Int32) (b : Nat → Nat → Int64) (v1 : Int32) (s0 : Int32) : Option (Int32) := if s0 ≤ v1 then some 0 else some s0
set_option maxHeartbeats 4000000 in
set_option maxRecDepth 100000 in
theorem lb_Model_signAhead_138 (l : Launch) (dC : Nat → ClassId) (dI : Nat → Nat → Nat) (cI cJ cB : ClassId) (adK adV adA : Nat → Nat) (h : Nat) (v : Nat → Nat) (n : Nat) {p : Program} {e : Env} {s : State} {m : MethodId} {args : Array Value} {below : List Frame} {meth : Method} {c : Code} {A : Nat → Prop} (hx : p.tables.exec = Jvm.exec) (hb : c.code = b_Model_signAhead) (hml : c.maxLocals = 6) (hown : s.vm.findClass R_Model = some m.cls) (hts : ∀ w ∈ w_Model_signAhead, w.before args s = true) (hK : va_K (dC, dI) classes [(cI, .int), (cJ, .long), (cB, .byte)] s) (hE : tw_E adK adV adA A s s.heap) (hA : ∀ q : Nat, s.heap.size ≤ q → A q) (hr : meth.sig.returnType = (some .int)) (hlocks : meth.locks = false) {i : Nat → Int32} {j : Nat → Int64} {a : Nat → Nat → Int32} {b : Nat → Nat → Int64} {r2 : Int32} (v1 : Int32) (s0 : Int32) (hm : m_Model_signAhead_b138 n i j a b v1 s0 = some r2) : ∀ (H : Heap) (locs : List Loc) (ls : Array Slot), va_P (dC, dI) classes (MW cI cJ cB h v i j a b) H → va_S A s.heap H locs → lv_has ls 6 [(1, .int v1)] → W p l e ({ frames := 2, cells := 0, slots := 0, locals := 42 } : Room) s m args below meth c H locs 0 0 (MQ below (va_Qi (xR r2) xT A) args s 0 0 A) (F0 m 138 ls [.int s0]) := by
  have htt : ∀ w ∈ tw_T, w.before _ s = true := fun w h => hts w (List.mem_cons_of_mem _ h)
  intro H locs ls hP hS hl
  rw [m_Model_signAhead_b138] at hm
  refine lv_istore (lv' := [(5, .int s0), (1, .int v1)]) hx hb d_Model_signAhead_138 hl (by decide) rfl (fun ls hl => ?_)
  refine lv_iload hx hb d_Model_signAhead_140 (lv_at hl 0 rfl) ?_
  refine lv_iload_n hx hb d_Model_signAhead_142 rfl (lv_at hl 1 rfl) ?_
  refine lv_icmp_le (tgt := 151) hx hb d_Model_signAhead_143 (by decide) (fun c_1 => ?_) (fun c_1 => ?_)
  · replace hm := if_t c_1 hm
    refine lv_iconst (v := 0) hx hb d_Model_signAhead_151 (by decide) ?_
    have e3 := re1 hm
    exact W.iret hx hb hr (fun t9 ht hW => ⟨⟨_, (), rfl, e3.symm, trivial⟩, hS.F ht⟩) hS.2.2 d_Model_signAhead_152
  · replace hm := if_f c_1 hm
    refine lv_iload hx hb d_Model_signAhead_146 (lv_at hl 0 rfl) ?_
    refine lv_goto (tgt := 152) hx hb d_Model_signAhead_148 (by decide) ?_
    have e3 := re1 hm
    exact W.iret hx hb hr (fun t9 ht hW => ⟨⟨_, (), rfl, e3.symm, trivial⟩, hS.F ht⟩) hS.2.2 d_Model_signAhead_152
def m_Model_signAhead_b97 (n : Nat) (i : Nat → Int32) (j : Nat → Int64) (a : Nat → Nat → Int32) (b : Nat → Nat → Int64) (v1 : Int32) : Option (Int32) := m_Model_signAhead_b138 n i j a b v1 (1 : Int32)
set_option maxHeartbeats 4000000 in
set_option maxRecDepth 100000 in
theorem lb_Model_signAhead_97 (l : Launch) (dC : Nat → ClassId) (dI : Nat → Nat → Nat) (cI cJ cB : ClassId) (adK adV adA : Nat → Nat) (h : Nat) (v : Nat → Nat) (n : Nat) {p : Program} {e : Env} {s : State} {m : MethodId} {args : Array Value} {below : List Frame} {meth : Method} {c : Code} {A : Nat → Prop} (hx : p.tables.exec = Jvm.exec) (hb : c.code = b_Model_signAhead) (hml : c.maxLocals = 6) (hown : s.vm.findClass R_Model = some m.cls) (hts : ∀ w ∈ w_Model_signAhead, w.before args s = true) (hK : va_K (dC, dI) classes [(cI, .int), (cJ, .long), (cB, .byte)] s) (hE : tw_E adK adV adA A s s.heap) (hA : ∀ q : Nat, s.heap.size ≤ q → A q) (hr : meth.sig.returnType = (some .int)) (hlocks : meth.locks = false) {i : Nat → Int32} {j : Nat → Int64} {a : Nat → Nat → Int32} {b : Nat → Nat → Int64} {r2 : Int32} (v1 : Int32) (hm : m_Model_signAhead_b97 n i j a b v1 = some r2) : ∀ (H : Heap) (locs : List Loc) (ls : Array Slot), va_P (dC, dI) classes (MW cI cJ cB h v i j a b) H → va_S A s.heap H locs → lv_has ls 6 [(1, .int v1)] → W p l e ({ frames := 2, cells := 0, slots := 0, locals := 42 } : Room) s m args below meth c H locs 0 0 (MQ below (va_Qi (xR r2) xT A) args s 0 0 A) (F0 m 97 ls []) := by
  have htt : ∀ w ∈ tw_T, w.before _ s = true := fun w h => hts w (List.mem_cons_of_mem _ h)
  intro H locs ls hP hS hl
  rw [m_Model_signAhead_b97] at hm
  refine lv_iconst (v := 1) hx hb d_Model_signAhead_97 (by decide) ?_
  refine lv_goto (tgt := 138) hx hb d_Model_signAhead_98 (by decide) ?_
  exact lb_Model_signAhead_138 l dC dI cI cJ cB adK adV adA h v n hx hb hml hown hts hK hE hA hr hlocks _ _ hm _ _ _ hP hS (lv_sub hl [0] rfl)
def m_Model_signAhead_b115 (n : Nat) (i : Nat → Int32) (j : Nat → Int64) (a : Nat → Nat → Int32) (b : Nat → Nat → Int64) (v1 : Int32) : Option (Int32) := m_Model_signAhead_b138 n i j a b v1 (2 : Int32)
set_option maxHeartbeats 4000000 in
set_option maxRecDepth 100000 in
theorem lb_Model_signAhead_115 (l : Launch) (dC : Nat → ClassId) (dI : Nat → Nat → Nat) (cI cJ cB : ClassId) (adK adV adA : Nat → Nat) (h : Nat) (v : Nat → Nat) (n : Nat) {p : Program} {e : Env} {s : State} {m : MethodId} {args : Array Value} {below : List Frame} {meth : Method} {c : Code} {A : Nat → Prop} (hx : p.tables.exec = Jvm.exec) (hb : c.code = b_Model_signAhead) (hml : c.maxLocals = 6) (hown : s.vm.findClass R_Model = some m.cls) (hts : ∀ w ∈ w_Model_signAhead, w.before args s = true) (hK : va_K (dC, dI) classes [(cI, .int), (cJ, .long), (cB, .byte)] s) (hE : tw_E adK adV adA A s s.heap) (hA : ∀ q : Nat, s.heap.size ≤ q → A q) (hr : meth.sig.returnType = (some .int)) (hlocks : meth.locks = false) {i : Nat → Int32} {j : Nat → Int64} {a : Nat → Nat → Int32} {b : Nat → Nat → Int64} {r2 : Int32} (v1 : Int32) (hm : m_Model_signAhead_b115 n i j a b v1 = some r2) : ∀ (H : Heap) (locs : List Loc) (ls : Array Slot), va_P (dC, dI) classes (MW cI cJ cB h v i j a b) H → va_S A s.heap H locs → lv_has ls 6 [(1, .int v1)] → W p l e ({ frames := 2, cells := 0, slots := 0, locals := 42 } : Room) s m args below meth c H locs 0 0 (MQ below (va_Qi (xR r2) xT A) args s 0 0 A) (F0 m 115 ls []) := by
  have htt : ∀ w ∈ tw_T, w.before _ s = true := fun w h => hts w (List.mem_cons_of_mem _ h)
  intro H locs ls hP hS hl
  rw [m_Model_signAhead_b115] at hm
  refine lv_iconst (v := 2) hx hb d_Model_signAhead_115 (by decide) ?_
  refine lv_goto (tgt := 138) hx hb d_Model_signAhead_116 (by decide) ?_
  exact lb_Model_signAhead_138 l dC dI cI cJ cB adK adV adA h v n hx hb hml hown hts hK hE hA hr hlocks _ _ hm _ _ _ hP hS (lv_sub hl [0] rfl)
def m_Model_signAhead_b133 (n : Nat) (i : Nat → Int32) (j : Nat → Int64) (a : Nat → Nat → Int32) (b : Nat → Nat → Int64) (v1 : Int32) : Option (Int32) := m_Model_signAhead_b138 n i j a b v1 (3 : Int32)
set_option maxHeartbeats 4000000 in
set_option maxRecDepth 100000 in
theorem lb_Model_signAhead_133 (l : Launch) (dC : Nat → ClassId) (dI : Nat → Nat → Nat) (cI cJ cB : ClassId) (adK adV adA : Nat → Nat) (h : Nat) (v : Nat → Nat) (n : Nat) {p : Program} {e : Env} {s : State} {m : MethodId} {args : Array Value} {below : List Frame} {meth : Method} {c : Code} {A : Nat → Prop} (hx : p.tables.exec = Jvm.exec) (hb : c.code = b_Model_signAhead) (hml : c.maxLocals = 6) (hown : s.vm.findClass R_Model = some m.cls) (hts : ∀ w ∈ w_Model_signAhead, w.before args s = true) (hK : va_K (dC, dI) classes [(cI, .int), (cJ, .long), (cB, .byte)] s) (hE : tw_E adK adV adA A s s.heap) (hA : ∀ q : Nat, s.heap.size ≤ q → A q) (hr : meth.sig.returnType = (some .int)) (hlocks : meth.locks = false) {i : Nat → Int32} {j : Nat → Int64} {a : Nat → Nat → Int32} {b : Nat → Nat → Int64} {r2 : Int32} (v1 : Int32) (hm : m_Model_signAhead_b133 n i j a b v1 = some r2) : ∀ (H : Heap) (locs : List Loc) (ls : Array Slot), va_P (dC, dI) classes (MW cI cJ cB h v i j a b) H → va_S A s.heap H locs → lv_has ls 6 [(1, .int v1)] → W p l e ({ frames := 2, cells := 0, slots := 0, locals := 42 } : Room) s m args below meth c H locs 0 0 (MQ below (va_Qi (xR r2) xT A) args s 0 0 A) (F0 m 133 ls []) := by
  have htt : ∀ w ∈ tw_T, w.before _ s = true := fun w h => hts w (List.mem_cons_of_mem _ h)
  intro H locs ls hP hS hl
  rw [m_Model_signAhead_b133] at hm
  refine lv_iconst (v := 3) hx hb d_Model_signAhead_133 (by decide) ?_
  refine lv_goto (tgt := 138) hx hb d_Model_signAhead_134 (by decide) ?_
  exact lb_Model_signAhead_138 l dC dI cI cJ cB adK adV adA h v n hx hb hml hown hts hK hE hA hr hlocks _ _ hm _ _ _ hP hS (lv_sub hl [0] rfl)
def m_Model_signAhead (n : Nat) (i : Nat → Int32) (j : Nat → Int64) (a : Nat → Nat → Int32) (b : Nat → Nat → Int64) (v1 : Int32) : Option (Int32) := ck ((i 105)) 90000 (if ((i 106)) < ((a 13 (i 105).toNatClampNeg)) then ck ((i 105)) 90000 (ck (((a 12 (i 105).toNatClampNeg) + (i 106))) 90000 (ob1 (b 10 ((a 12 (i 105).toNatClampNeg) + (i 106)).toNatClampNeg : Int64) (fun x_5 => ob0 (m_Model_isWord n x_5) (fun r_7 => if r_7 = ((0 : Int32)) then some 0 else ob0 (m_Model_what n x_5) (fun r_10 => ck r_10 120000 (if ((a 4 r_10.toNatClampNeg)) = ((1 : Int32)) then ob0 (m_Model_what n x_5) (fun r_14 => ck r_14 120000 (ck ((a 3 r_14.toNatClampNeg)) 300000 (ob1 (a 1 (a 3 r_14.toNatClampNeg).toNatClampNeg : Int32) (fun x_17 => if x_17 = ((61 : Int32)) then m_Model_signAhead_b97 n i j a b v1 else if x_17 = ((60 : Int32)) then m_Model_signAhead_b97 n i j a b v1 else if x_17 = ((62 : Int32)) then m_Model_signAhead_b97 n i j a b v1 else if x_17 = ((43 : Int32)) then m_Model_signAhead_b115 n i j a b v1 else if x_17 = ((45 : Int32)) then m_Model_signAhead_b115 n i j a b v1 else if x_17 = ((42 : Int32)) then m_Model_signAhead_b133 n i j a b v1 else if x_17 = ((47 : Int32)) then m_Model_signAhead_b133 n i j a b v1 else m_Model_signAhead_b138 n i j a b v1 (0 : Int32))))) else some 0)))))) else some 0)
set_option maxHeartbeats 4000000 in
set_option maxRecDepth 100000 in
theorem x_Model_signAhead (l : Launch) (dC : Nat → ClassId) (dI : Nat → Nat → Nat) (cI cJ cB : ClassId) (adK adV adA : Nat → Nat) (h : Nat) (v : Nat → Nat) (sz : Nat) (n : Nat) {i : Nat → Int32} {j : Nat → Int64} {a : Nat → Nat → Int32} {b : Nat → Nat → Int64} {v1 : Int32} {r2 : Int32} (hm : m_Model_signAhead n i j a b v1 = some r2) : Met l y_Model_signAhead w_Model_signAhead ({ frames := 2, cells := 0, slots := 0, locals := 42 } : Room) (va_Pc [.ref h, .int v1] (yEr dC dI cI cJ cB adK adV adA h v i j a b sz)) (va_Qi (xR r2) xT (xN sz)) 0 0 (xN sz) := by
  refine Met.ofW (cc := b_Model_signAhead) (maxL := 6) (ret := (some .int)) (by decide) rfl ?_
  intro p e s m args below meth c s₁ B hml hv
  obtain ⟨rfl, hsz, hP, hK, hE⟩ := hv
  have hx := B.exec
  have hb := B.bytes
  have hr := B.returns
  have hts := atoms_spec (ws := w_Model_signAhead) B.pre
  have htt : ∀ w ∈ tw_T, w.before _ s = true := fun w h => hts w (List.mem_cons_of_mem _ h)
  have hown : s.vm.findClass R_Model = some m.cls := findClass_of_methodNamed B.named
  have hlocks := B.notSynchronized
  subst hsz
  generalize hAe : xN s.heap.size = A at hE ⊢
  have hA : ∀ q : Nat, s.heap.size ≤ q → A q := fun q h => by rw [← hAe]; exact Or.inr h
  have hS : va_S A s.heap s.heap [] := va_S.rf
  have hl := lv_entry ([.ref h, .int v1]) (n := 6) (Nat.le_of_ble_eq_true rfl)
  rw [lg_entry_eq]
  generalize (lg_sl ([.ref h, .int v1]) ++ List.replicate (6 - (lg_sl ([.ref h, .int v1])).length) Slot.unset).toArray = ls at hl ⊢
  have hl : lv_has ls 6 [(0, .ref h), (1, .int v1)] := hl
  rw [m_Model_signAhead] at hm
  refine lv_aload_n hx hb d_Model_signAhead_0 rfl (lv_at hl 0 rfl) ?_
  refine va_get (D := (dC, dI)) (ci := 12) (v := .int (i 106)) (C := R_Model) (T := F_Model) (N := 127) hx hb htt iw_Model hown hK hP 0 yo_12 rfl 106 (Nat.le_of_ble_eq_true rfl) (htt _ lk_Model_590) (fun _ h9 => h9) yg_106 d_Model_signAhead_1 ?_
  refine lv_aload_n hx hb d_Model_signAhead_4 rfl (lv_at hl 0 rfl) ?_
  refine va_get (D := (dC, dI)) (ci := 12) (v := .ref ((v 13))) (C := R_Model) (T := F_Model) (N := 127) hx hb htt iw_Model hown hK hP 0 yo_12 rfl 13 (Nat.le_of_ble_eq_true rfl) (htt _ lk_Model_47) (fun _ h9 => h9) yg_13 d_Model_signAhead_5 ?_
  refine lv_aload_n hx hb d_Model_signAhead_8 rfl (lv_at hl 0 rfl) ?_
  refine va_get (D := (dC, dI)) (ci := 12) (v := .int (i 105)) (C := R_Model) (T := F_Model) (N := 127) hx hb htt iw_Model hown hK hP 0 yo_12 rfl 105 (Nat.le_of_ble_eq_true rfl) (htt _ lk_Model_587) (fun _ h9 => h9) yg_105 d_Model_signAhead_9 ?_
  obtain ⟨h_1, hm⟩ := ck_some hm
  refine va_iald hx hb hK hP 13 0 ya_13 rfl h_1 d_Model_signAhead_12 ?_
  refine lv_icmp_lt (tgt := 18) hx hb d_Model_signAhead_13 (by decide) (fun c_2 => ?_) (fun c_2 => ?_)
  · replace hm := if_t c_2 hm
    refine lv_aload_n hx hb d_Model_signAhead_18 rfl (lv_at hl 0 rfl) ?_
    refine va_get (D := (dC, dI)) (ci := 12) (v := .ref ((v 10))) (C := R_Model) (T := F_Model) (N := 127) hx hb htt iw_Model hown hK hP 0 yo_12 rfl 10 (Nat.le_of_ble_eq_true rfl) (htt _ lk_Model_35) (fun _ h9 => h9) yg_10 d_Model_signAhead_19 ?_
    refine lv_aload_n hx hb d_Model_signAhead_22 rfl (lv_at hl 0 rfl) ?_
    refine va_get (D := (dC, dI)) (ci := 12) (v := .ref ((v 12))) (C := R_Model) (T := F_Model) (N := 127) hx hb htt iw_Model hown hK hP 0 yo_12 rfl 12 (Nat.le_of_ble_eq_true rfl) (htt _ lk_Model_41) (fun _ h9 => h9) yg_12 d_Model_signAhead_23 ?_
    refine lv_aload_n hx hb d_Model_signAhead_26 rfl (lv_at hl 0 rfl) ?_
    refine va_get (D := (dC, dI)) (ci := 12) (v := .int (i 105)) (C := R_Model) (T := F_Model) (N := 127) hx hb htt iw_Model hown hK hP 0 yo_12 rfl 105 (Nat.le_of_ble_eq_true rfl) (htt _ lk_Model_587) (fun _ h9 => h9) yg_105 d_Model_signAhead_27 ?_
    obtain ⟨h_3, hm⟩ := ck_some hm
    refine va_iald hx hb hK hP 12 0 ya_12 rfl h_3 d_Model_signAhead_30 ?_
    refine lv_aload_n hx hb d_Model_signAhead_31 rfl (lv_at hl 0 rfl) ?_
    refine va_get (D := (dC, dI)) (ci := 12) (v := .int (i 106)) (C := R_Model) (T := F_Model) (N := 127) hx hb htt iw_Model hown hK hP 0 yo_12 rfl 106 (Nat.le_of_ble_eq_true rfl) (htt _ lk_Model_590) (fun _ h9 => h9) yg_106 d_Model_signAhead_32 ?_
    refine lv_iadd hx hb d_Model_signAhead_35 ?_
    obtain ⟨h_4, hm⟩ := ck_some hm
    refine va_lald hx hb hK hP 10 1 ya_10 rfl h_4 d_Model_signAhead_36 ?_
    refine lv_topl (fun x_5 ex_5 => ?_)
    replace hm := ob1_at ex_5 hm
    refine lv_lstore_n (lv' := [(2, .long x_5), (0, .ref h), (1, .int v1)]) hx hb d_Model_signAhead_37 rfl hl (by decide) rfl (fun ls hl => ?_)
    refine lv_lload_n hx hb d_Model_signAhead_38 rfl (lv_at hl 0 rfl) ?_
    obtain ⟨r_7, h_6, hm⟩ := ob0_some hm
    have hFc := x_free0 hS hA
    refine va_calli (va_runS (As := [.long x_5]) (rest := []) ⟨hx, hb, hml, hown, hts⟩ (x_Model_isWord l s.heap.size n h_6) (va_cwS 1 hts (tw_GS tw_cons cw_Model_isWord lk_Model_61 st_Model_isWord ini_Model) rfl rfl rfl hd_Model_isWord ⟨Nat.le_of_ble_eq_true rfl, Nat.le_of_ble_eq_true rfl⟩) xpS0 rfl rfl hl.1 rfl (lv_room (Nat.le_of_ble_eq_true rfl)) d_Model_signAhead_39 ⟨Nat.le_of_ble_eq_true rfl, Nat.le_of_ble_eq_true rfl⟩) hS (fun q _ h => hFc q h) hFc (fun r9 u9 t9 H locs ht hvm e9 hB hz1 hk1 hS => ?_)
    have e9 : r_7 = r9 := e9
    subst e9
    replace hP := x_keep hP hk1
    clear hFc hk1 hz1 hvm hB ht
    refine lv_if_eq (tgt := 58) hx hb d_Model_signAhead_42 (by decide) (fun c_8 => ?_) (fun c_8 => ?_)
    · replace hm := if_t c_8 hm
      refine lv_iconst (v := 0) hx hb d_Model_signAhead_58 (by decide) ?_
      have e3 := re1 hm
      exact W.iret hx hb hr (fun t9 ht hW => ⟨⟨_, (), rfl, e3.symm, trivial⟩, hS.F ht⟩) hS.2.2 d_Model_signAhead_59
    · replace hm := if_f c_8 hm
      refine lv_aload_n hx hb d_Model_signAhead_45 rfl (lv_at hl 1 rfl) ?_
      refine va_get (D := (dC, dI)) (ci := 12) (v := .ref ((v 4))) (C := R_Model) (T := F_Model) (N := 127) hx hb htt iw_Model hown hK hP 0 yo_12 rfl 4 (Nat.le_of_ble_eq_true rfl) (htt _ lk_Model_22) (fun _ h9 => h9) yg_4 d_Model_signAhead_46 ?_
      refine lv_lload_n hx hb d_Model_signAhead_49 rfl (lv_at hl 0 rfl) ?_
      obtain ⟨r_10, h_9, hm⟩ := ob0_some hm
      have hFc := x_free0 hS hA
      refine va_calli (va_runS (As := [.long x_5]) (rest := [.ref ((v 4))]) ⟨hx, hb, hml, hown, hts⟩ (x_Model_what l H.size n h_9) (va_cwS 1 hts (tw_GS tw_cons cw_Model_what lk_Model_64 st_Model_what ini_Model) rfl rfl rfl hd_Model_what ⟨Nat.le_of_ble_eq_true rfl, Nat.le_of_ble_eq_true rfl⟩) xpS0 rfl rfl hl.1 rfl (lv_room (Nat.le_of_ble_eq_true rfl)) d_Model_signAhead_50 ⟨Nat.le_of_ble_eq_true rfl, Nat.le_of_ble_eq_true rfl⟩) hS (fun q _ h => hFc q h) hFc (fun r9 u9 t9 H locs ht hvm e9 hB hz1 hk1 hS => ?_)
      have e9 : r_10 = r9 := e9
      subst e9
      replace hP := x_keep hP hk1
      clear hFc hk1 hz1 hvm hB ht
      obtain ⟨h_11, hm⟩ := ck_some hm
      refine va_iald hx hb hK hP 4 0 ya_4 rfl h_11 d_Model_signAhead_53 ?_
      refine lv_iconst (v := 1) hx hb d_Model_signAhead_54 (by decide) ?_
      refine lv_icmp_eq (tgt := 60) hx hb d_Model_signAhead_55 (by decide) (fun c_12 => ?_) (fun c_12 => ?_)
      · replace hm := if_t c_12 hm
        refine lv_aload_n hx hb d_Model_signAhead_60 rfl (lv_at hl 1 rfl) ?_
        refine va_get (D := (dC, dI)) (ci := 12) (v := .ref ((v 1))) (C := R_Model) (T := F_Model) (N := 127) hx hb htt iw_Model hown hK hP 0 yo_12 rfl 1 (Nat.le_of_ble_eq_true rfl) (htt _ lk_Model_67) (fun _ h9 => h9) yg_1 d_Model_signAhead_61 ?_
        refine lv_aload_n hx hb d_Model_signAhead_64 rfl (lv_at hl 1 rfl) ?_
        refine va_get (D := (dC, dI)) (ci := 12) (v := .ref ((v 3))) (C := R_Model) (T := F_Model) (N := 127) hx hb htt iw_Model hown hK hP 0 yo_12 rfl 3 (Nat.le_of_ble_eq_true rfl) (htt _ lk_Model_15) (fun _ h9 => h9) yg_3 d_Model_signAhead_65 ?_
        refine lv_lload_n hx hb d_Model_signAhead_68 rfl (lv_at hl 0 rfl) ?_
        obtain ⟨r_14, h_13, hm⟩ := ob0_some hm
        have hFc := x_free0 hS hA
        refine va_calli (va_runS (As := [.long x_5]) (rest := [.ref ((v 3)), .ref ((v 1))]) ⟨hx, hb, hml, hown, hts⟩ (x_Model_what l H.size n h_13) (va_cwS 1 hts (tw_GS tw_cons cw_Model_what lk_Model_64 st_Model_what ini_Model) rfl rfl rfl hd_Model_what ⟨Nat.le_of_ble_eq_true rfl, Nat.le_of_ble_eq_true rfl⟩) xpS0 rfl rfl hl.1 rfl (lv_room (Nat.le_of_ble_eq_true rfl)) d_Model_signAhead_69 ⟨Nat.le_of_ble_eq_true rfl, Nat.le_of_ble_eq_true rfl⟩) hS (fun q _ h => hFc q h) hFc (fun r9 u9 t9 H locs ht hvm e9 hB hz1 hk1 hS => ?_)
        have e9 : r_14 = r9 := e9
        subst e9
        replace hP := x_keep hP hk1
        clear hFc hk1 hz1 hvm hB ht
        obtain ⟨h_15, hm⟩ := ck_some hm
        refine va_iald hx hb hK hP 3 0 ya_3 rfl h_15 d_Model_signAhead_72 ?_
        obtain ⟨h_16, hm⟩ := ck_some hm
        refine va_bald hx hb hK hP 1 2 ya_1 rfl h_16 d_Model_signAhead_73 ?_
        refine lv_topi (fun x_17 ex_17 => ?_)
        replace hm := ob1_at ex_17 hm
        refine lv_istore (lv' := [(4, .int x_17), (2, .long x_5), (0, .ref h), (1, .int v1)]) hx hb d_Model_signAhead_74 hl (by decide) rfl (fun ls hl => ?_)
        refine lv_iload hx hb d_Model_signAhead_76 (lv_at hl 0 rfl) ?_
        refine lv_bipush (v := 61) hx hb d_Model_signAhead_78 (by decide) ?_
        refine lv_icmp_eq (tgt := 97) hx hb d_Model_signAhead_80 (by decide) (fun c_18 => ?_) (fun c_18 => ?_)
        · replace hm := if_t c_18 hm
          exact lb_Model_signAhead_97 l dC dI cI cJ cB adK adV adA h v n hx hb hml hown hts hK hE hA hr hlocks _ hm _ _ _ hP hS (lv_sub hl [3] rfl)
        · replace hm := if_f c_18 hm
          refine lv_iload hx hb d_Model_signAhead_83 (lv_at hl 0 rfl) ?_
          refine lv_bipush (v := 60) hx hb d_Model_signAhead_85 (by decide) ?_
          refine lv_icmp_eq (tgt := 97) hx hb d_Model_signAhead_87 (by decide) (fun c_19 => ?_) (fun c_19 => ?_)
          · replace hm := if_t c_19 hm
            exact lb_Model_signAhead_97 l dC dI cI cJ cB adK adV adA h v n hx hb hml hown hts hK hE hA hr hlocks _ hm _ _ _ hP hS (lv_sub hl [3] rfl)
          · replace hm := if_f c_19 hm
            refine lv_iload hx hb d_Model_signAhead_90 (lv_at hl 0 rfl) ?_
            refine lv_bipush (v := 62) hx hb d_Model_signAhead_92 (by decide) ?_
            refine lv_icmp_ne (tgt := 101) hx hb d_Model_signAhead_94 (by decide) (fun c_20 => ?_) (fun c_20 => ?_)
            · replace hm := if_f c_20 hm
              refine lv_iload hx hb d_Model_signAhead_101 (lv_at hl 0 rfl) ?_
              refine lv_bipush (v := 43) hx hb d_Model_signAhead_103 (by decide) ?_
              refine lv_icmp_eq (tgt := 115) hx hb d_Model_signAhead_105 (by decide) (fun c_21 => ?_) (fun c_21 => ?_)
              · replace hm := if_t c_21 hm
                exact lb_Model_signAhead_115 l dC dI cI cJ cB adK adV adA h v n hx hb hml hown hts hK hE hA hr hlocks _ hm _ _ _ hP hS (lv_sub hl [3] rfl)
              · replace hm := if_f c_21 hm
                refine lv_iload hx hb d_Model_signAhead_108 (lv_at hl 0 rfl) ?_
                refine lv_bipush (v := 45) hx hb d_Model_signAhead_110 (by decide) ?_
                refine lv_icmp_ne (tgt := 119) hx hb d_Model_signAhead_112 (by decide) (fun c_22 => ?_) (fun c_22 => ?_)
                · replace hm := if_f c_22 hm
                  refine lv_iload hx hb d_Model_signAhead_119 (lv_at hl 0 rfl) ?_
                  refine lv_bipush (v := 42) hx hb d_Model_signAhead_121 (by decide) ?_
                  refine lv_icmp_eq (tgt := 133) hx hb d_Model_signAhead_123 (by decide) (fun c_23 => ?_) (fun c_23 => ?_)
                  · replace hm := if_t c_23 hm
                    exact lb_Model_signAhead_133 l dC dI cI cJ cB adK adV adA h v n hx hb hml hown hts hK hE hA hr hlocks _ hm _ _ _ hP hS (lv_sub hl [3] rfl)
                  · replace hm := if_f c_23 hm
                    refine lv_iload hx hb d_Model_signAhead_126 (lv_at hl 0 rfl) ?_
                    refine lv_bipush (v := 47) hx hb d_Model_signAhead_128 (by decide) ?_
                    refine lv_icmp_ne (tgt := 137) hx hb d_Model_signAhead_130 (by decide) (fun c_24 => ?_) (fun c_24 => ?_)
                    · replace hm := if_f c_24 hm
                      refine lv_iconst (v := 0) hx hb d_Model_signAhead_137 (by decide) ?_
                      exact lb_Model_signAhead_138 l dC dI cI cJ cB adK adV adA h v n hx hb hml hown hts hK hE hA hr hlocks _ _ hm _ _ _ hP hS (lv_sub hl [3] rfl)
                    · replace hm := if_t c_24 hm
                      exact lb_Model_signAhead_133 l dC dI cI cJ cB adK adV adA h v n hx hb hml hown hts hK hE hA hr hlocks _ hm _ _ _ hP hS (lv_sub hl [3] rfl)
                · replace hm := if_t c_22 hm
                  exact lb_Model_signAhead_115 l dC dI cI cJ cB adK adV adA h v n hx hb hml hown hts hK hE hA hr hlocks _ hm _ _ _ hP hS (lv_sub hl [3] rfl)
            · replace hm := if_t c_20 hm
              exact lb_Model_signAhead_97 l dC dI cI cJ cB adK adV adA h v n hx hb hml hown hts hK hE hA hr hlocks _ hm _ _ _ hP hS (lv_sub hl [3] rfl)
      · replace hm := if_f c_12 hm
        refine lv_iconst (v := 0) hx hb d_Model_signAhead_58 (by decide) ?_
        have e3 := re1 hm
        exact W.iret hx hb hr (fun t9 ht hW => ⟨⟨_, (), rfl, e3.symm, trivial⟩, hS.F ht⟩) hS.2.2 d_Model_signAhead_59
  · replace hm := if_f c_2 hm
    refine lv_iconst (v := 0) hx hb d_Model_signAhead_16 (by decide) ?_
    have e3 := re1 hm
    exact W.iret hx hb hr (fun t9 ht hW => ⟨⟨_, (), rfl, e3.symm, trivial⟩, hS.F ht⟩) hS.2.2 d_Model_signAhead_17

def m_Model_procedure (n : Nat) (i : Nat → Int32) (j : Nat → Int64) (a : Nat → Nat → Int32) (b : Nat → Nat → Int64) (v1 : Int32) (v2 : Int32) : Option ((Nat → Int32) × (Nat → Int64) × (Nat → Nat → Int32) × (Nat → Nat → Int64) × Int32) := ob1 (upd i 0 0 : Nat → Int32) (fun i_1 => if v1 < ((0 : Int32)) then some (i_1, j, a, b, (-1)) else if ((i_1 33)) ≤ v1 then some (i_1, j, a, b, (-1)) else if ((0 : Int32)) ≤ v2 then ck v1 40 (ob1 (a 29 v1.toNatClampNeg : Int32) (fun x_6 => if v2 = ((0 : Int32)) then ck v1 40 (some (i_1, j, a, b, a 30 v1.toNatClampNeg)) else if v2 = ((1 : Int32)) then ck v1 40 (ob0 (m_Model_size n i_1 j a b (b 32 v1.toNatClampNeg)) (fun r_15 => some (i_1, j, a, b, r_15))) else ck x_6 120000 (if ((v2 - 2)) < ((a 4 x_6.toNatClampNeg)) then ck x_6 120000 (ck ((((a 3 x_6.toNatClampNeg) + v2) - 2)) 300000 (some (i_1, j, a, b, a 1 (((a 3 x_6.toNatClampNeg) + v2) - 2).toNatClampNeg))) else some (i_1, j, a, b, (-1))))) else some (i_1, j, a, b, (-1)))
set_option maxHeartbeats 4000000 in
set_option maxRecDepth 100000 in
theorem x_Model_procedure (l : Launch) (dC : Nat → ClassId) (dI : Nat → Nat → Nat) (cI cJ cB : ClassId) (adK adV adA : Nat → Nat) (h : Nat) (v : Nat → Nat) (sz : Nat) (n : Nat) {i : Nat → Int32} {j : Nat → Int64} {a : Nat → Nat → Int32} {b : Nat → Nat → Int64} {v1 : Int32} {v2 : Int32} {i2 : Nat → Int32} {j2 : Nat → Int64} {a2 : Nat → Nat → Int32} {b2 : Nat → Nat → Int64} {r2 : Int32} (hm : m_Model_procedure n i j a b v1 v2 = some (i2, j2, a2, b2, r2)) : Met l y_Model_procedure w_Model_procedure ({ frames := 2, cells := 0, slots := 0, locals := 43 } : Room) (va_Pc [.ref h, .int v1, .int v2] (yE dC dI cI cJ cB adK adV adA h v i j a b sz)) (va_Qi (xR r2) (yB dC dI cI cJ cB h v i2 j2 a2 b2 (va_A (MW cI cJ cB h v i j a b) sz)) (va_A (MW cI cJ cB h v i j a b) sz)) 0 0 ((va_A (MW cI cJ cB h v i j a b) sz)) := by
  refine Met.ofW (cc := b_Model_procedure) (maxL := 4) (ret := (some .int)) (by decide) rfl ?_
  intro p e s m args below meth c s₁ B hml hv
  obtain ⟨rfl, hsz, hP, hK, hE, hD0⟩ := hv
  have hx := B.exec
  have hb := B.bytes
  have hr := B.returns
  have hts := atoms_spec (ws := w_Model_procedure) B.pre
  have htt : ∀ w ∈ tw_T, w.before _ s = true := fun w h => hts w (List.mem_cons_of_mem _ h)
  have hown : s.vm.findClass R_Model = some m.cls := findClass_of_methodNamed B.named
  have hlocks := B.notSynchronized
  subst hsz
  have hD := hD0.self (sz := s.heap.size)
  generalize hAe : (va_A (MW cI cJ cB h v i j a b) s.heap.size) = A at hD hE ⊢
  have hA : ∀ q : Nat, s.heap.size ≤ q → A q := fun q h => by rw [← hAe]; exact Or.inr h
  have hS : va_S A s.heap s.heap [] := va_S.rf
  have hl := lv_entry ([.ref h, .int v1, .int v2]) (n := 4) (Nat.le_of_ble_eq_true rfl)
  rw [lg_entry_eq]
  generalize (lg_sl ([.ref h, .int v1, .int v2]) ++ List.replicate (4 - (lg_sl ([.ref h, .int v1, .int v2])).length) Slot.unset).toArray = ls at hl ⊢
  have hl : lv_has ls 4 [(0, .ref h), (1, .int v1), (2, .int v2)] := hl
  rw [m_Model_procedure] at hm
  refine lv_aload_n hx hb d_Model_procedure_0 rfl (lv_at hl 0 rfl) ?_
  refine lv_iconst (v := 0) hx hb d_Model_procedure_1 (by decide) ?_
  refine va_put (D := (dC, dI)) (ci := 12) (v := .int 0) (ty := .int) (C := R_Model) (T := F_Model) (N := 127) hx hb htt iw_Model t_Model t_Model_ok n_Model hown hK hP hD hS 0 yo_12 rfl 0 (Nat.le_of_ble_eq_true rfl) (htt _ lk_Model_1) (fun _ h9 => h9) rfl (by decide +kernel) rfl rfl yl_0 d_Model_procedure_2 (fun H locs hP hD hS => ?_)
  obtain ⟨i_1, ei_1⟩ : ∃ y9 : Nat → Int32, y9 = upd i 0 0 := ⟨_, rfl⟩
  replace hm := ob1_at ei_1 hm
  obtain ⟨hP, hD⟩ := yw_0 ei_1 hP hD
  refine lv_iload_n hx hb d_Model_procedure_5 rfl (lv_at hl 1 rfl) ?_
  refine lv_if_lt (tgt := 21) hx hb d_Model_procedure_6 (by decide) (fun c_2 => ?_) (fun c_2 => ?_)
  · replace hm := if_t c_2 hm
    refine lv_iconst (v := -1) hx hb d_Model_procedure_21 (by decide) ?_
    obtain ⟨e1i, e1j, e1a, e1b, e3⟩ := re4m hm
    obtain ⟨hP, hD⟩ := y_eq e1i e1j e1a e1b hP hD
    exact W.iret hx hb hr (fun t9 ht hW => ⟨⟨_, (), rfl, e3.symm, by rw [ht]; exact hP, hD⟩, hS.F ht⟩) hS.2.2 d_Model_procedure_22
  · replace hm := if_f c_2 hm
    refine lv_iload_n hx hb d_Model_procedure_9 rfl (lv_at hl 1 rfl) ?_
    refine lv_aload_n hx hb d_Model_procedure_10 rfl (lv_at hl 0 rfl) ?_
    refine va_get (D := (dC, dI)) (ci := 12) (v := .int (i_1 33)) (C := R_Model) (T := F_Model) (N := 127) hx hb htt iw_Model hown hK hP 0 yo_12 rfl 33 (Nat.le_of_ble_eq_true rfl) (htt _ lk_Model_344) (fun _ h9 => h9) yg_33 d_Model_procedure_11 ?_
    refine lv_icmp_ge (tgt := 21) hx hb d_Model_procedure_14 (by decide) (fun c_3 => ?_) (fun c_3 => ?_)
    · replace hm := if_t c_3 hm
      refine lv_iconst (v := -1) hx hb d_Model_procedure_21 (by decide) ?_
      obtain ⟨e1i, e1j, e1a, e1b, e3⟩ := re4m hm
      obtain ⟨hP, hD⟩ := y_eq e1i e1j e1a e1b hP hD
      exact W.iret hx hb hr (fun t9 ht hW => ⟨⟨_, (), rfl, e3.symm, by rw [ht]; exact hP, hD⟩, hS.F ht⟩) hS.2.2 d_Model_procedure_22
    · replace hm := if_f c_3 hm
      refine lv_iload_n hx hb d_Model_procedure_17 rfl (lv_at hl 2 rfl) ?_
      refine lv_if_ge (tgt := 23) hx hb d_Model_procedure_18 (by decide) (fun c_4 => ?_) (fun c_4 => ?_)
      · replace hm := if_t c_4 hm
        refine lv_aload_n hx hb d_Model_procedure_23 rfl (lv_at hl 0 rfl) ?_
        refine va_get (D := (dC, dI)) (ci := 12) (v := .ref ((v 29))) (C := R_Model) (T := F_Model) (N := 127) hx hb htt iw_Model hown hK hP 0 yo_12 rfl 29 (Nat.le_of_ble_eq_true rfl) (htt _ lk_Model_183) (fun _ h9 => h9) yg_29 d_Model_procedure_24 ?_
        refine lv_iload_n hx hb d_Model_procedure_27 rfl (lv_at hl 1 rfl) ?_
        obtain ⟨h_5, hm⟩ := ck_some hm
        refine va_iald hx hb hK hP 23 0 ya_29 rfl h_5 d_Model_procedure_28 ?_
        refine lv_topi (fun x_6 ex_6 => ?_)
        replace hm := ob1_at ex_6 hm
        refine lv_istore_n (lv' := [(3, .int x_6), (0, .ref h), (1, .int v1), (2, .int v2)]) hx hb d_Model_procedure_29 rfl hl (by decide) rfl (fun ls hl => ?_)
        refine lv_iload_n hx hb d_Model_procedure_30 rfl (lv_at hl 3 rfl) ?_
        refine lv_if_ne (tgt := 43) hx hb d_Model_procedure_31 (by decide) (fun c_7 => ?_) (fun c_7 => ?_)
        · replace hm := if_f c_7 hm
          refine lv_iload_n hx hb d_Model_procedure_43 rfl (lv_at hl 3 rfl) ?_
          refine lv_iconst (v := 1) hx hb d_Model_procedure_44 (by decide) ?_
          refine lv_icmp_ne (tgt := 61) hx hb d_Model_procedure_45 (by decide) (fun c_8 => ?_) (fun c_8 => ?_)
          · replace hm := if_f c_8 hm
            refine lv_iload_n hx hb d_Model_procedure_61 rfl (lv_at hl 3 rfl) ?_
            refine lv_iconst (v := 2) hx hb d_Model_procedure_62 (by decide) ?_
            refine lv_isub hx hb d_Model_procedure_63 ?_
            refine lv_aload_n hx hb d_Model_procedure_64 rfl (lv_at hl 1 rfl) ?_
            refine va_get (D := (dC, dI)) (ci := 12) (v := .ref ((v 4))) (C := R_Model) (T := F_Model) (N := 127) hx hb htt iw_Model hown hK hP 0 yo_12 rfl 4 (Nat.le_of_ble_eq_true rfl) (htt _ lk_Model_22) (fun _ h9 => h9) yg_4 d_Model_procedure_65 ?_
            refine lv_iload_n hx hb d_Model_procedure_68 rfl (lv_at hl 0 rfl) ?_
            obtain ⟨h_9, hm⟩ := ck_some hm
            refine va_iald hx hb hK hP 4 0 ya_4 rfl h_9 d_Model_procedure_69 ?_
            refine lv_icmp_lt (tgt := 77) hx hb d_Model_procedure_70 (by decide) (fun c_10 => ?_) (fun c_10 => ?_)
            · replace hm := if_t c_10 hm
              refine lv_aload_n hx hb d_Model_procedure_77 rfl (lv_at hl 1 rfl) ?_
              refine va_get (D := (dC, dI)) (ci := 12) (v := .ref ((v 1))) (C := R_Model) (T := F_Model) (N := 127) hx hb htt iw_Model hown hK hP 0 yo_12 rfl 1 (Nat.le_of_ble_eq_true rfl) (htt _ lk_Model_67) (fun _ h9 => h9) yg_1 d_Model_procedure_78 ?_
              refine lv_aload_n hx hb d_Model_procedure_81 rfl (lv_at hl 1 rfl) ?_
              refine va_get (D := (dC, dI)) (ci := 12) (v := .ref ((v 3))) (C := R_Model) (T := F_Model) (N := 127) hx hb htt iw_Model hown hK hP 0 yo_12 rfl 3 (Nat.le_of_ble_eq_true rfl) (htt _ lk_Model_15) (fun _ h9 => h9) yg_3 d_Model_procedure_82 ?_
              refine lv_iload_n hx hb d_Model_procedure_85 rfl (lv_at hl 0 rfl) ?_
              obtain ⟨h_11, hm⟩ := ck_some hm
              refine va_iald hx hb hK hP 3 0 ya_3 rfl h_11 d_Model_procedure_86 ?_
              refine lv_iload_n hx hb d_Model_procedure_87 rfl (lv_at hl 3 rfl) ?_
              refine lv_iadd hx hb d_Model_procedure_88 ?_
              refine lv_iconst (v := 2) hx hb d_Model_procedure_89 (by decide) ?_
              refine lv_isub hx hb d_Model_procedure_90 ?_
              obtain ⟨h_12, hm⟩ := ck_some hm
              refine va_bald hx hb hK hP 1 2 ya_1 rfl h_12 d_Model_procedure_91 ?_
              obtain ⟨e1i, e1j, e1a, e1b, e3⟩ := re4m hm
              obtain ⟨hP, hD⟩ := y_eq e1i e1j e1a e1b hP hD
              exact W.iret hx hb hr (fun t9 ht hW => ⟨⟨_, (), rfl, e3.symm, by rw [ht]; exact hP, hD⟩, hS.F ht⟩) hS.2.2 d_Model_procedure_92
            · replace hm := if_f c_10 hm
              refine lv_iconst (v := -1) hx hb d_Model_procedure_73 (by decide) ?_
              refine lv_goto (tgt := 92) hx hb d_Model_procedure_74 (by decide) ?_
              obtain ⟨e1i, e1j, e1a, e1b, e3⟩ := re4m hm
              obtain ⟨hP, hD⟩ := y_eq e1i e1j e1a e1b hP hD
              exact W.iret hx hb hr (fun t9 ht hW => ⟨⟨_, (), rfl, e3.symm, by rw [ht]; exact hP, hD⟩, hS.F ht⟩) hS.2.2 d_Model_procedure_92
          · replace hm := if_t c_8 hm
            refine lv_aload_n hx hb d_Model_procedure_48 rfl (lv_at hl 1 rfl) ?_
            refine lv_aload_n hx hb d_Model_procedure_49 rfl (lv_at hl 1 rfl) ?_
            refine va_get (D := (dC, dI)) (ci := 12) (v := .ref ((v 32))) (C := R_Model) (T := F_Model) (N := 127) hx hb htt iw_Model hown hK hP 0 yo_12 rfl 32 (Nat.le_of_ble_eq_true rfl) (htt _ lk_Model_192) (fun _ h9 => h9) yg_32 d_Model_procedure_50 ?_
            refine lv_iload_n hx hb d_Model_procedure_53 rfl (lv_at hl 2 rfl) ?_
            obtain ⟨h_13, hm⟩ := ck_some hm
            refine va_lald hx hb hK hP 26 1 ya_32 rfl h_13 d_Model_procedure_54 ?_
            obtain ⟨r_15, h_14, hm⟩ := ob0_some hm
            have hFc := x_free0 hS hA
            refine va_calli (va_runV (As := [.long (b 32 v1.toNatClampNeg)]) (rest := []) ⟨hx, hb, hml, hown, hts⟩ (x_Model_size l dC dI cI cJ cB adK adV adA h v H.size n h_14) (cwV 1 hts (tw_GV tw_cons cw_Model_size lk_Model_98 in_Model_size sel_Model_size ini_Model) rfl rfl rfl ⟨rfl, hd_Model_size⟩ ⟨Nat.le_of_ble_eq_true rfl, Nat.le_of_ble_eq_true rfl⟩) (ypVr hK hP hS hE hFc yo_12 rfl) rfl rfl hl.1 rfl (lv_room (Nat.le_of_ble_eq_true rfl)) d_Model_procedure_55 ⟨Nat.le_of_ble_eq_true rfl, Nat.le_of_ble_eq_true rfl⟩) hS (fun q _ h => hFc q h) hFc (fun r9 u9 t9 H locs ht hvm e9 hB hz1 hk1 hS => ?_)
            have e9 : r_15 = r9 := e9
            subst e9
            replace hP := x_keep hP hk1
            clear hFc hk1 hz1 hvm hB ht
            refine lv_goto (tgt := 92) hx hb d_Model_procedure_58 (by decide) ?_
            obtain ⟨e1i, e1j, e1a, e1b, e3⟩ := re4m hm
            obtain ⟨hP, hD⟩ := y_eq e1i e1j e1a e1b hP hD
            exact W.iret hx hb hr (fun t9 ht hW => ⟨⟨_, (), rfl, e3.symm, by rw [ht]; exact hP, hD⟩, hS.F ht⟩) hS.2.2 d_Model_procedure_92
        · replace hm := if_t c_7 hm
          refine lv_aload_n hx hb d_Model_procedure_34 rfl (lv_at hl 1 rfl) ?_
          refine va_get (D := (dC, dI)) (ci := 12) (v := .ref ((v 30))) (C := R_Model) (T := F_Model) (N := 127) hx hb htt iw_Model hown hK hP 0 yo_12 rfl 30 (Nat.le_of_ble_eq_true rfl) (htt _ lk_Model_186) (fun _ h9 => h9) yg_30 d_Model_procedure_35 ?_
          refine lv_iload_n hx hb d_Model_procedure_38 rfl (lv_at hl 2 rfl) ?_
          obtain ⟨h_16, hm⟩ := ck_some hm
          refine va_iald hx hb hK hP 24 0 ya_30 rfl h_16 d_Model_procedure_39 ?_
          refine lv_goto (tgt := 92) hx hb d_Model_procedure_40 (by decide) ?_
          obtain ⟨e1i, e1j, e1a, e1b, e3⟩ := re4m hm
          obtain ⟨hP, hD⟩ := y_eq e1i e1j e1a e1b hP hD
          exact W.iret hx hb hr (fun t9 ht hW => ⟨⟨_, (), rfl, e3.symm, by rw [ht]; exact hP, hD⟩, hS.F ht⟩) hS.2.2 d_Model_procedure_92
      · replace hm := if_f c_4 hm
        refine lv_iconst (v := -1) hx hb d_Model_procedure_21 (by decide) ?_
        obtain ⟨e1i, e1j, e1a, e1b, e3⟩ := re4m hm
        obtain ⟨hP, hD⟩ := y_eq e1i e1j e1a e1b hP hD
        exact W.iret hx hb hr (fun t9 ht hW => ⟨⟨_, (), rfl, e3.symm, by rw [ht]; exact hP, hD⟩, hS.F ht⟩) hS.2.2 d_Model_procedure_22

def m_Model_definition_b344 (n : Nat) (i : Nat → Int32) (j : Nat → Int64) (a : Nat → Nat → Int32) (b : Nat → Nat → Int64) (v1 : Int32) (v3 : Int32) (v4 : Int32) : Option ((Nat → Int32) × (Nat → Int64) × (Nat → Nat → Int32) × (Nat → Nat → Int64) × Int32) := if v3 = ((0 : Int32)) then some (i, j, a, b, (0 : Int32)) else ob0 (m_Model_isText n i j a b v4 (10 : Nat)) (fun r_3 => if r_3 = ((0 : Int32)) then some (i, j, a, b, (0 : Int32)) else ck ((i 86)) 300 (ob1 (sv a 91 (i 86).toNatClampNeg v1 : Nat → Nat → Int32) (fun a_6 => ob1 ((i 86) + 1 : Int32) (fun x_7 => ob1 (upd i 86 x_7 : Nat → Int32) (fun i_8 => ob1 (upd i_8 84 0 : Nat → Int32) (fun i_9 => some (i_9, j, a_6, b, (0 : Int32))))))))
set_option maxHeartbeats 4000000 in
set_option maxRecDepth 100000 in
theorem lb_Model_definition_344 (l : Launch) (dC : Nat → ClassId) (dI : Nat → Nat → Nat) (cI cJ cB : ClassId) (adK adV adA : Nat → Nat) (h : Nat) (v : Nat → Nat) (n : Nat) {p : Program} {e : Env} {s : State} {m : MethodId} {args : Array Value} {below : List Frame} {meth : Method} {c : Code} {A : Nat → Prop} (hx : p.tables.exec = Jvm.exec) (hb : c.code = b_Model_definition) (hml : c.maxLocals = 7) (hown : s.vm.findClass R_Model = some m.cls) (hts : ∀ w ∈ w_Model_definition, w.before args s = true) (hK : va_K (dC, dI) classes [(cI, .int), (cJ, .long), (cB, .byte)] s) (hE : tw_E adK adV adA A s s.heap) (hA : ∀ q : Nat, s.heap.size ≤ q → A q) (hr : meth.sig.returnType = none) (hlocks : meth.locks = false) {i2 : Nat → Int32} {j2 : Nat → Int64} {a2 : Nat → Nat → Int32} {b2 : Nat → Nat → Int64} {r2 : Int32} (i : Nat → Int32) (j : Nat → Int64) (a : Nat → Nat → Int32) (b : Nat → Nat → Int64) (v1 : Int32) (v3 : Int32) (v4 : Int32) (hm : m_Model_definition_b344 n i j a b v1 v3 v4 = some (i2, j2, a2, b2, r2)) : ∀ (H : Heap) (locs : List Loc) (ls : Array Slot), va_P (dC, dI) classes (MW cI cJ cB h v i j a b) H → va_D A (MW cI cJ cB h v i j a b) → va_S A s.heap H locs → lv_has ls 7 [(0, .ref h), (1, .int v1), (3, .int v3), (4, .int v4)] → W p l e ({ frames := 6, cells := 0, slots := 0, locals := 134 } : Room) s m args below meth c H locs 0 0 (MQ below (va_Qv xV (yB dC dI cI cJ cB h v i2 j2 a2 b2 A) A) args s 0 0 A) (F0 m 344 ls []) := by
  have htt : ∀ w ∈ tw_T, w.before _ s = true := fun w h => hts w (List.mem_cons_of_mem _ h)
  intro H locs ls hP hD hS hl
  rw [m_Model_definition_b344] at hm
  refine lv_iload_n hx hb d_Model_definition_344 rfl (lv_at hl 2 rfl) ?_
  refine lv_if_eq (tgt := 385) hx hb d_Model_definition_345 (by decide) (fun c_1 => ?_) (fun c_1 => ?_)
  · replace hm := if_t c_1 hm
    obtain ⟨e1i, e1j, e1a, e1b, e3⟩ := re4m hm
    obtain ⟨hP, hD⟩ := y_eq e1i e1j e1a e1b hP hD
    exact W.vret hx hb hr (fun t9 ht hW => ⟨⟨(), rfl, trivial, by rw [ht]; exact hP, hD⟩, hS.F ht⟩) hS.2.2 d_Model_definition_385
  · replace hm := if_f c_1 hm
    refine lv_aload_n hx hb d_Model_definition_348 rfl (lv_at hl 0 rfl) ?_
    refine lv_iload hx hb d_Model_definition_349 (lv_at hl 3 rfl) ?_
    refine tw_ldcwS hx hb hown (show vk_R "TurtleWorldModel" 477 _ (adK 10) s from hE.ref 10 (by decide)) d_Model_definition_351 ?_
    obtain ⟨r_3, h_2, hm⟩ := ob0_some hm
    have hFc := x_free0 hS hA
    refine va_calli (va_runV (As := [.int v4, .ref (adK 10)]) (rest := []) ⟨hx, hb, hml, hown, hts⟩ (x_Model_isText l dC dI cI cJ cB adK adV adA h v H.size n h_2) (cwV 2 hts (tw_GV tw_cons cw_Model_isText lk_Model_473 in_Model_isText sel_Model_isText ini_Model) rfl rfl rfl ⟨rfl, hd_Model_isText⟩ ⟨Nat.le_of_ble_eq_true rfl, Nat.le_of_ble_eq_true rfl⟩) (ypVr hK hP hS hE hFc yo_12 rfl) rfl rfl hl.1 rfl (lv_room (Nat.le_of_ble_eq_true rfl)) d_Model_definition_354 ⟨Nat.le_of_ble_eq_true rfl, Nat.le_of_ble_eq_true rfl⟩) hS (fun q _ h => hFc q h) hFc (fun r9 u9 t9 H locs ht hvm e9 hB hz1 hk1 hS => ?_)
    have e9 : r_3 = r9 := e9
    subst e9
    replace hP := x_keep hP hk1
    clear hFc hk1 hz1 hvm hB ht
    refine lv_if_eq (tgt := 385) hx hb d_Model_definition_357 (by decide) (fun c_4 => ?_) (fun c_4 => ?_)
    · replace hm := if_t c_4 hm
      obtain ⟨e1i, e1j, e1a, e1b, e3⟩ := re4m hm
      obtain ⟨hP, hD⟩ := y_eq e1i e1j e1a e1b hP hD
      exact W.vret hx hb hr (fun t9 ht hW => ⟨⟨(), rfl, trivial, by rw [ht]; exact hP, hD⟩, hS.F ht⟩) hS.2.2 d_Model_definition_385
    · replace hm := if_f c_4 hm
      refine lv_aload_n hx hb d_Model_definition_360 rfl (lv_at hl 0 rfl) ?_
      refine va_get (D := (dC, dI)) (ci := 12) (v := .ref ((v 91))) (C := R_Model) (T := F_Model) (N := 127) hx hb htt iw_Model hown hK hP 0 yo_12 rfl 91 (Nat.le_of_ble_eq_true rfl) (htt _ lk_Model_297) (fun _ h9 => h9) yg_91 d_Model_definition_361 ?_
      refine lv_aload_n hx hb d_Model_definition_364 rfl (lv_at hl 0 rfl) ?_
      refine va_get (D := (dC, dI)) (ci := 12) (v := .int (i 86)) (C := R_Model) (T := F_Model) (N := 127) hx hb htt iw_Model hown hK hP 0 yo_12 rfl 86 (Nat.le_of_ble_eq_true rfl) (htt _ lk_Model_482) (fun _ h9 => h9) yg_86 d_Model_definition_365 ?_
      refine lv_iload_n hx hb d_Model_definition_368 rfl (lv_at hl 1 rfl) ?_
      obtain ⟨h_5, hm⟩ := ck_some hm
      refine va_iast hx hb hK hP hD hS 60 0 ya_91 rfl h_5 d_Model_definition_369 (fun H locs hP hD hS => ?_)
      obtain ⟨a_6, ea_6⟩ : ∃ y9 : Nat → Nat → Int32, y9 = sv a 91 (i 86).toNatClampNeg v1 := ⟨_, rfl⟩
      replace hm := ob1_at ea_6 hm
      obtain ⟨hP, hD⟩ := yv_91 ea_6 hP hD
      refine lv_aload_n hx hb d_Model_definition_370 rfl (lv_at hl 0 rfl) ?_
      refine lv_dup hx hb d_Model_definition_371 rfl ?_
      refine va_get (D := (dC, dI)) (ci := 12) (v := .int (i 86)) (C := R_Model) (T := F_Model) (N := 127) hx hb htt iw_Model hown hK hP 0 yo_12 rfl 86 (Nat.le_of_ble_eq_true rfl) (htt _ lk_Model_482) (fun _ h9 => h9) yg_86 d_Model_definition_372 ?_
      refine lv_iconst (v := 1) hx hb d_Model_definition_375 (by decide) ?_
      refine lv_iadd hx hb d_Model_definition_376 ?_
      refine lv_topi (fun x_7 ex_7 => ?_)
      replace hm := ob1_at ex_7 hm
      refine va_put (D := (dC, dI)) (ci := 12) (v := .int x_7) (ty := .int) (C := R_Model) (T := F_Model) (N := 127) hx hb htt iw_Model t_Model t_Model_ok n_Model hown hK hP hD hS 0 yo_12 rfl 86 (Nat.le_of_ble_eq_true rfl) (htt _ lk_Model_482) (fun _ h9 => h9) rfl (by decide +kernel) rfl rfl yl_86 d_Model_definition_377 (fun H locs hP hD hS => ?_)
      obtain ⟨i_8, ei_8⟩ : ∃ y9 : Nat → Int32, y9 = upd i 86 x_7 := ⟨_, rfl⟩
      replace hm := ob1_at ei_8 hm
      obtain ⟨hP, hD⟩ := yw_86 ei_8 hP hD
      refine lv_aload_n hx hb d_Model_definition_380 rfl (lv_at hl 0 rfl) ?_
      refine lv_iconst (v := 0) hx hb d_Model_definition_381 (by decide) ?_
      refine va_put (D := (dC, dI)) (ci := 12) (v := .int 0) (ty := .int) (C := R_Model) (T := F_Model) (N := 127) hx hb htt iw_Model t_Model t_Model_ok n_Model hown hK hP hD hS 0 yo_12 rfl 84 (Nat.le_of_ble_eq_true rfl) (htt _ lk_Model_428) (fun _ h9 => h9) rfl (by decide +kernel) rfl rfl yl_84 d_Model_definition_382 (fun H locs hP hD hS => ?_)
      obtain ⟨i_9, ei_9⟩ : ∃ y9 : Nat → Int32, y9 = upd i_8 84 0 := ⟨_, rfl⟩
      replace hm := ob1_at ei_9 hm
      obtain ⟨hP, hD⟩ := yw_84 ei_9 hP hD
      obtain ⟨e1i, e1j, e1a, e1b, e3⟩ := re4m hm
      obtain ⟨hP, hD⟩ := y_eq e1i e1j e1a e1b hP hD
      exact W.vret hx hb hr (fun t9 ht hW => ⟨⟨(), rfl, trivial, by rw [ht]; exact hP, hD⟩, hS.F ht⟩) hS.2.2 d_Model_definition_385
def m_Model_definition_b321 (n : Nat) (i : Nat → Int32) (j : Nat → Int64) (a : Nat → Nat → Int32) (b : Nat → Nat → Int64) (v1 : Int32) (v3 : Int32) (v4 : Int32) : Option ((Nat → Int32) × (Nat → Int64) × (Nat → Nat → Int32) × (Nat → Nat → Int64) × Int32) := if ((i 84)) = ((2 : Int32)) then ck ((i 86)) 300 (ob1 (sv a 90 (i 86).toNatClampNeg v1 : Nat → Nat → Int32) (fun a_3 => ob1 (upd i 84 3 : Nat → Int32) (fun i_4 => m_Model_definition_b344 n i_4 j a_3 b v1 v3 v4))) else m_Model_definition_b344 n i j a b v1 v3 v4
set_option maxHeartbeats 4000000 in
set_option maxRecDepth 100000 in
theorem lb_Model_definition_321 (l : Launch) (dC : Nat → ClassId) (dI : Nat → Nat → Nat) (cI cJ cB : ClassId) (adK adV adA : Nat → Nat) (h : Nat) (v : Nat → Nat) (n : Nat) {p : Program} {e : Env} {s : State} {m : MethodId} {args : Array Value} {below : List Frame} {meth : Method} {c : Code} {A : Nat → Prop} (hx : p.tables.exec = Jvm.exec) (hb : c.code = b_Model_definition) (hml : c.maxLocals = 7) (hown : s.vm.findClass R_Model = some m.cls) (hts : ∀ w ∈ w_Model_definition, w.before args s = true) (hK : va_K (dC, dI) classes [(cI, .int), (cJ, .long), (cB, .byte)] s) (hE : tw_E adK adV adA A s s.heap) (hA : ∀ q : Nat, s.heap.size ≤ q → A q) (hr : meth.sig.returnType = none) (hlocks : meth.locks = false) {i2 : Nat → Int32} {j2 : Nat → Int64} {a2 : Nat → Nat → Int32} {b2 : Nat → Nat → Int64} {r2 : Int32} (i : Nat → Int32) (j : Nat → Int64) (a : Nat → Nat → Int32) (b : Nat → Nat → Int64) (v1 : Int32) (v3 : Int32) (v4 : Int32) (hm : m_Model_definition_b321 n i j a b v1 v3 v4 = some (i2, j2, a2, b2, r2)) : ∀ (H : Heap) (locs : List Loc) (ls : Array Slot), va_P (dC, dI) classes (MW cI cJ cB h v i j a b) H → va_D A (MW cI cJ cB h v i j a b) → va_S A s.heap H locs → lv_has ls 7 [(0, .ref h), (1, .int v1), (3, .int v3), (4, .int v4)] → W p l e ({ frames := 6, cells := 0, slots := 0, locals := 134 } : Room) s m args below meth c H locs 0 0 (MQ below (va_Qv xV (yB dC dI cI cJ cB h v i2 j2 a2 b2 A) A) args s 0 0 A) (F0 m 321 ls []) := by
  have htt : ∀ w ∈ tw_T, w.before _ s = true := fun w h => hts w (List.mem_cons_of_mem _ h)
  intro H locs ls hP hD hS hl
  rw [m_Model_definition_b321] at hm
  refine lv_aload_n hx hb d_Model_definition_321 rfl (lv_at hl 0 rfl) ?_
  refine va_get (D := (dC, dI)) (ci := 12) (v := .int (i 84)) (C := R_Model) (T := F_Model) (N := 127) hx hb htt iw_Model hown hK hP 0 yo_12 rfl 84 (Nat.le_of_ble_eq_true rfl) (htt _ lk_Model_428) (fun _ h9 => h9) yg_84 d_Model_definition_322 ?_
  refine lv_iconst (v := 2) hx hb d_Model_definition_325 (by decide) ?_
  refine lv_icmp_ne (tgt := 344) hx hb d_Model_definition_326 (by decide) (fun c_1 => ?_) (fun c_1 => ?_)
  · replace hm := if_f c_1 hm
    exact lb_Model_definition_344 l dC dI cI cJ cB adK adV adA h v n hx hb hml hown hts hK hE hA hr hlocks _ _ _ _ _ _ _ hm _ _ _ hP hD hS (lv_sub hl [0, 1, 2, 3] rfl)
  · replace hm := if_t c_1 hm
    refine lv_aload_n hx hb d_Model_definition_329 rfl (lv_at hl 0 rfl) ?_
    refine va_get (D := (dC, dI)) (ci := 12) (v := .ref ((v 90))) (C := R_Model) (T := F_Model) (N := 127) hx hb htt iw_Model hown hK hP 0 yo_12 rfl 90 (Nat.le_of_ble_eq_true rfl) (htt _ lk_Model_294) (fun _ h9 => h9) yg_90 d_Model_definition_330 ?_
    refine lv_aload_n hx hb d_Model_definition_333 rfl (lv_at hl 0 rfl) ?_
    refine va_get (D := (dC, dI)) (ci := 12) (v := .int (i 86)) (C := R_Model) (T := F_Model) (N := 127) hx hb htt iw_Model hown hK hP 0 yo_12 rfl 86 (Nat.le_of_ble_eq_true rfl) (htt _ lk_Model_482) (fun _ h9 => h9) yg_86 d_Model_definition_334 ?_
    refine lv_iload_n hx hb d_Model_definition_337 rfl (lv_at hl 1 rfl) ?_
    obtain ⟨h_2, hm⟩ := ck_some hm
    refine va_iast hx hb hK hP hD hS 59 0 ya_90 rfl h_2 d_Model_definition_338 (fun H locs hP hD hS => ?_)
    obtain ⟨a_3, ea_3⟩ : ∃ y9 : Nat → Nat → Int32, y9 = sv a 90 (i 86).toNatClampNeg v1 := ⟨_, rfl⟩
    replace hm := ob1_at ea_3 hm
    obtain ⟨hP, hD⟩ := yv_90 ea_3 hP hD
    refine lv_aload_n hx hb d_Model_definition_339 rfl (lv_at hl 0 rfl) ?_
    refine lv_iconst (v := 3) hx hb d_Model_definition_340 (by decide) ?_
    refine va_put (D := (dC, dI)) (ci := 12) (v := .int 3) (ty := .int) (C := R_Model) (T := F_Model) (N := 127) hx hb htt iw_Model t_Model t_Model_ok n_Model hown hK hP hD hS 0 yo_12 rfl 84 (Nat.le_of_ble_eq_true rfl) (htt _ lk_Model_428) (fun _ h9 => h9) rfl (by decide +kernel) rfl rfl yl_84 d_Model_definition_341 (fun H locs hP hD hS => ?_)
    obtain ⟨i_4, ei_4⟩ : ∃ y9 : Nat → Int32, y9 = upd i 84 3 := ⟨_, rfl⟩
    replace hm := ob1_at ei_4 hm
    obtain ⟨hP, hD⟩ := yw_84 ei_4 hP hD
    exact lb_Model_definition_344 l dC dI cI cJ cB adK adV adA h v n hx hb hml hown hts hK hE hA hr hlocks _ _ _ _ _ _ _ hm _ _ _ hP hD hS (lv_sub hl [0, 1, 2, 3] rfl)
def m_Model_definition_b127 (n : Nat) (i : Nat → Int32) (j : Nat → Int64) (a : Nat → Nat → Int32) (b : Nat → Nat → Int64) (v1 : Int32) : Option ((Nat → Int32) × (Nat → Int64) × (Nat → Nat → Int32) × (Nat → Nat → Int64) × Int32) := ck v1 601 (om (m_Model_fail n i j a b (8 : Int32) (a 77 v1.toNatClampNeg)) (fun i_3 j_4 a_5 b_6 r_7 => some (i_3, j_4, a_5, b_6, (0 : Int32))))
set_option maxHeartbeats 4000000 in
set_option maxRecDepth 100000 in
theorem lb_Model_definition_127 (l : Launch) (dC : Nat → ClassId) (dI : Nat → Nat → Nat) (cI cJ cB : ClassId) (adK adV adA : Nat → Nat) (h : Nat) (v : Nat → Nat) (n : Nat) {p : Program} {e : Env} {s : State} {m : MethodId} {args : Array Value} {below : List Frame} {meth : Method} {c : Code} {A : Nat → Prop} (hx : p.tables.exec = Jvm.exec) (hb : c.code = b_Model_definition) (hml : c.maxLocals = 7) (hown : s.vm.findClass R_Model = some m.cls) (hts : ∀ w ∈ w_Model_definition, w.before args s = true) (hK : va_K (dC, dI) classes [(cI, .int), (cJ, .long), (cB, .byte)] s) (hE : tw_E adK adV adA A s s.heap) (hA : ∀ q : Nat, s.heap.size ≤ q → A q) (hr : meth.sig.returnType = none) (hlocks : meth.locks = false) {i2 : Nat → Int32} {j2 : Nat → Int64} {a2 : Nat → Nat → Int32} {b2 : Nat → Nat → Int64} {r2 : Int32} (i : Nat → Int32) (j : Nat → Int64) (a : Nat → Nat → Int32) (b : Nat → Nat → Int64) (v1 : Int32) (hm : m_Model_definition_b127 n i j a b v1 = some (i2, j2, a2, b2, r2)) : ∀ (H : Heap) (locs : List Loc) (ls : Array Slot), va_P (dC, dI) classes (MW cI cJ cB h v i j a b) H → va_D A (MW cI cJ cB h v i j a b) → va_S A s.heap H locs → lv_has ls 7 [(0, .ref h), (1, .int v1)] → W p l e ({ frames := 6, cells := 0, slots := 0, locals := 134 } : Room) s m args below meth c H locs 0 0 (MQ below (va_Qv xV (yB dC dI cI cJ cB h v i2 j2 a2 b2 A) A) args s 0 0 A) (F0 m 127 ls []) := by
  have htt : ∀ w ∈ tw_T, w.before _ s = true := fun w h => hts w (List.mem_cons_of_mem _ h)
  intro H locs ls hP hD hS hl
  rw [m_Model_definition_b127] at hm
  refine lv_aload_n hx hb d_Model_definition_127 rfl (lv_at hl 0 rfl) ?_
  refine lv_bipush (v := 8) hx hb d_Model_definition_128 (by decide) ?_
  refine lv_aload_n hx hb d_Model_definition_130 rfl (lv_at hl 0 rfl) ?_
  refine va_get (D := (dC, dI)) (ci := 12) (v := .ref ((v 77))) (C := R_Model) (T := F_Model) (N := 127) hx hb htt iw_Model hown hK hP 0 yo_12 rfl 77 (Nat.le_of_ble_eq_true rfl) (htt _ lk_Model_267) (fun _ h9 => h9) yg_77 d_Model_definition_131 ?_
  refine lv_iload_n hx hb d_Model_definition_134 rfl (lv_at hl 1 rfl) ?_
  obtain ⟨h_1, hm⟩ := ck_some hm
  refine va_iald hx hb hK hP 50 0 ya_77 rfl h_1 d_Model_definition_135 ?_
  obtain ⟨i_3, j_4, a_5, b_6, r_7, h_2, hm⟩ := om_some hm
  have hFc := x_free hD hS hA
  refine va_callv (va_runV (As := [.int 8, .int (a 77 v1.toNatClampNeg)]) (rest := []) ⟨hx, hb, hml, hown, hts⟩ (x_Model_fail l dC dI cI cJ cB adK adV adA h v H.size n h_2) (cwV 2 hts (tw_GV tw_cons cw_Model_fail lk_Model_437 in_Model_fail sel_Model_fail ini_Model) rfl rfl rfl ⟨rfl, hd_Model_fail⟩ ⟨Nat.le_of_ble_eq_true rfl, Nat.le_of_ble_eq_true rfl⟩) (ypV hK hP hD hS hE hFc yo_12 rfl) rfl rfl hl.1 rfl (lv_room (Nat.le_of_ble_eq_true rfl)) d_Model_definition_136 ⟨Nat.le_of_ble_eq_true rfl, Nat.le_of_ble_eq_true rfl⟩) hS (fun q _ h => hFc q h) hFc (fun u9 t9 H locs ht hvm e9 hB hz1 hk1 hS => ?_)
  obtain ⟨hP, hD⟩ := y_aft hB ht hFc
  clear hFc hk1 hz1 hvm hB ht
  obtain ⟨e1i, e1j, e1a, e1b, e3⟩ := re4m hm
  obtain ⟨hP, hD⟩ := y_eq e1i e1j e1a e1b hP hD
  exact W.vret hx hb hr (fun t9 ht hW => ⟨⟨(), rfl, trivial, by rw [ht]; exact hP, hD⟩, hS.F ht⟩) hS.2.2 d_Model_definition_139
def m_Model_definition_b249 (n : Nat) (i : Nat → Int32) (j : Nat → Int64) (a : Nat → Nat → Int32) (b : Nat → Nat → Int64) (v4 : Int32) (s0 : Int32) (s1 : Int32) : Option ((Nat → Int32) × (Nat → Int64) × (Nat → Nat → Int32) × (Nat → Nat → Int64) × Int32) := ob1 (s1 + s0 : Int32) (fun x_1 => ob1 (upd i 85 x_1 : Nat → Int32) (fun i_2 => ck ((i_2 86)) 300 (ob1 (sv a 87 (i_2 86).toNatClampNeg v4 : Nat → Nat → Int32) (fun a_4 => ck ((i_2 86)) 300 (ob1 (sv a_4 88 (i_2 86).toNatClampNeg 0 : Nat → Nat → Int32) (fun a_6 => ob1 (upd i_2 84 2 : Nat → Int32) (fun i_7 => some (i_7, j, a_6, b, (0 : Int32)))))))))
set_option maxHeartbeats 4000000 in
set_option maxRecDepth 100000 in
theorem lb_Model_definition_249 (l : Launch) (dC : Nat → ClassId) (dI : Nat → Nat → Nat) (cI cJ cB : ClassId) (adK adV adA : Nat → Nat) (h : Nat) (v : Nat → Nat) (n : Nat) {p : Program} {e : Env} {s : State} {m : MethodId} {args : Array Value} {below : List Frame} {meth : Method} {c : Code} {A : Nat → Prop} (hx : p.tables.exec = Jvm.exec) (hb : c.code = b_Model_definition) (hml : c.maxLocals = 7) (hown : s.vm.findClass R_Model = some m.cls) (hts : ∀ w ∈ w_Model_definition, w.before args s = true) (hK : va_K (dC, dI) classes [(cI, .int), (cJ, .long), (cB, .byte)] s) (hE : tw_E adK adV adA A s s.heap) (hA : ∀ q : Nat, s.heap.size ≤ q → A q) (hr : meth.sig.returnType = none) (hlocks : meth.locks = false) {i2 : Nat → Int32} {j2 : Nat → Int64} {a2 : Nat → Nat → Int32} {b2 : Nat → Nat → Int64} {r2 : Int32} (i : Nat → Int32) (j : Nat → Int64) (a : Nat → Nat → Int32) (b : Nat → Nat → Int64) (v4 : Int32) (s0 : Int32) (s1 : Int32) (hm : m_Model_definition_b249 n i j a b v4 s0 s1 = some (i2, j2, a2, b2, r2)) : ∀ (H : Heap) (locs : List Loc) (ls : Array Slot), va_P (dC, dI) classes (MW cI cJ cB h v i j a b) H → va_D A (MW cI cJ cB h v i j a b) → va_S A s.heap H locs → lv_has ls 7 [(0, .ref h), (4, .int v4)] → W p l e ({ frames := 6, cells := 0, slots := 0, locals := 134 } : Room) s m args below meth c H locs 0 0 (MQ below (va_Qv xV (yB dC dI cI cJ cB h v i2 j2 a2 b2 A) A) args s 0 0 A) (F0 m 249 ls [.int s0, .int s1, .ref h]) := by
  have htt : ∀ w ∈ tw_T, w.before _ s = true := fun w h => hts w (List.mem_cons_of_mem _ h)
  intro H locs ls hP hD hS hl
  rw [m_Model_definition_b249] at hm
  refine lv_iadd hx hb d_Model_definition_249 ?_
  refine lv_topi (fun x_1 ex_1 => ?_)
  replace hm := ob1_at ex_1 hm
  refine va_put (D := (dC, dI)) (ci := 12) (v := .int x_1) (ty := .int) (C := R_Model) (T := F_Model) (N := 127) hx hb htt iw_Model t_Model t_Model_ok n_Model hown hK hP hD hS 0 yo_12 rfl 85 (Nat.le_of_ble_eq_true rfl) (htt _ lk_Model_431) (fun _ h9 => h9) rfl (by decide +kernel) rfl rfl yl_85 d_Model_definition_250 (fun H locs hP hD hS => ?_)
  obtain ⟨i_2, ei_2⟩ : ∃ y9 : Nat → Int32, y9 = upd i 85 x_1 := ⟨_, rfl⟩
  replace hm := ob1_at ei_2 hm
  obtain ⟨hP, hD⟩ := yw_85 ei_2 hP hD
  refine lv_aload_n hx hb d_Model_definition_253 rfl (lv_at hl 0 rfl) ?_
  refine va_get (D := (dC, dI)) (ci := 12) (v := .ref ((v 87))) (C := R_Model) (T := F_Model) (N := 127) hx hb htt iw_Model hown hK hP 0 yo_12 rfl 87 (Nat.le_of_ble_eq_true rfl) (htt _ lk_Model_285) (fun _ h9 => h9) yg_87 d_Model_definition_254 ?_
  refine lv_aload_n hx hb d_Model_definition_257 rfl (lv_at hl 0 rfl) ?_
  refine va_get (D := (dC, dI)) (ci := 12) (v := .int (i_2 86)) (C := R_Model) (T := F_Model) (N := 127) hx hb htt iw_Model hown hK hP 0 yo_12 rfl 86 (Nat.le_of_ble_eq_true rfl) (htt _ lk_Model_482) (fun _ h9 => h9) yg_86 d_Model_definition_258 ?_
  refine lv_iload hx hb d_Model_definition_261 (lv_at hl 1 rfl) ?_
  obtain ⟨h_3, hm⟩ := ck_some hm
  refine va_iast hx hb hK hP hD hS 56 0 ya_87 rfl h_3 d_Model_definition_263 (fun H locs hP hD hS => ?_)
  obtain ⟨a_4, ea_4⟩ : ∃ y9 : Nat → Nat → Int32, y9 = sv a 87 (i_2 86).toNatClampNeg v4 := ⟨_, rfl⟩
  replace hm := ob1_at ea_4 hm
  obtain ⟨hP, hD⟩ := yv_87 ea_4 hP hD
  refine lv_aload_n hx hb d_Model_definition_264 rfl (lv_at hl 0 rfl) ?_
  refine va_get (D := (dC, dI)) (ci := 12) (v := .ref ((v 88))) (C := R_Model) (T := F_Model) (N := 127) hx hb htt iw_Model hown hK hP 0 yo_12 rfl 88 (Nat.le_of_ble_eq_true rfl) (htt _ lk_Model_288) (fun _ h9 => h9) yg_88 d_Model_definition_265 ?_
  refine lv_aload_n hx hb d_Model_definition_268 rfl (lv_at hl 0 rfl) ?_
  refine va_get (D := (dC, dI)) (ci := 12) (v := .int (i_2 86)) (C := R_Model) (T := F_Model) (N := 127) hx hb htt iw_Model hown hK hP 0 yo_12 rfl 86 (Nat.le_of_ble_eq_true rfl) (htt _ lk_Model_482) (fun _ h9 => h9) yg_86 d_Model_definition_269 ?_
  refine lv_iconst (v := 0) hx hb d_Model_definition_272 (by decide) ?_
  obtain ⟨h_5, hm⟩ := ck_some hm
  refine va_iast hx hb hK hP hD hS 57 0 ya_88 rfl h_5 d_Model_definition_273 (fun H locs hP hD hS => ?_)
  obtain ⟨a_6, ea_6⟩ : ∃ y9 : Nat → Nat → Int32, y9 = sv a_4 88 (i_2 86).toNatClampNeg 0 := ⟨_, rfl⟩
  replace hm := ob1_at ea_6 hm
  obtain ⟨hP, hD⟩ := yv_88 ea_6 hP hD
  refine lv_aload_n hx hb d_Model_definition_274 rfl (lv_at hl 0 rfl) ?_
  refine lv_iconst (v := 2) hx hb d_Model_definition_275 (by decide) ?_
  refine va_put (D := (dC, dI)) (ci := 12) (v := .int 2) (ty := .int) (C := R_Model) (T := F_Model) (N := 127) hx hb htt iw_Model t_Model t_Model_ok n_Model hown hK hP hD hS 0 yo_12 rfl 84 (Nat.le_of_ble_eq_true rfl) (htt _ lk_Model_428) (fun _ h9 => h9) rfl (by decide +kernel) rfl rfl yl_84 d_Model_definition_276 (fun H locs hP hD hS => ?_)
  obtain ⟨i_7, ei_7⟩ : ∃ y9 : Nat → Int32, y9 = upd i_2 84 2 := ⟨_, rfl⟩
  replace hm := ob1_at ei_7 hm
  obtain ⟨hP, hD⟩ := yw_84 ei_7 hP hD
  refine lv_goto (tgt := 385) hx hb d_Model_definition_279 (by decide) ?_
  obtain ⟨e1i, e1j, e1a, e1b, e3⟩ := re4m hm
  obtain ⟨hP, hD⟩ := y_eq e1i e1j e1a e1b hP hD
  exact W.vret hx hb hr (fun t9 ht hW => ⟨⟨(), rfl, trivial, by rw [ht]; exact hP, hD⟩, hS.F ht⟩) hS.2.2 d_Model_definition_385
def m_Model_definition_b234 (n : Nat) (i : Nat → Int32) (j : Nat → Int64) (a : Nat → Nat → Int32) (b : Nat → Nat → Int64) (v4 : Int32) (v5 : Int32) : Option ((Nat → Int32) × (Nat → Int64) × (Nat → Nat → Int32) × (Nat → Nat → Int64) × Int32) := if v5 = ((0 : Int32)) then m_Model_definition_b249 n i j a b v4 (0 : Int32) (i 85) else m_Model_definition_b249 n i j a b v4 (1 : Int32) (i 85)
set_option maxHeartbeats 4000000 in
set_option maxRecDepth 100000 in
theorem lb_Model_definition_234 (l : Launch) (dC : Nat → ClassId) (dI : Nat → Nat → Nat) (cI cJ cB : ClassId) (adK adV adA : Nat → Nat) (h : Nat) (v : Nat → Nat) (n : Nat) {p : Program} {e : Env} {s : State} {m : MethodId} {args : Array Value} {below : List Frame} {meth : Method} {c : Code} {A : Nat → Prop} (hx : p.tables.exec = Jvm.exec) (hb : c.code = b_Model_definition) (hml : c.maxLocals = 7) (hown : s.vm.findClass R_Model = some m.cls) (hts : ∀ w ∈ w_Model_definition, w.before args s = true) (hK : va_K (dC, dI) classes [(cI, .int), (cJ, .long), (cB, .byte)] s) (hE : tw_E adK adV adA A s s.heap) (hA : ∀ q : Nat, s.heap.size ≤ q → A q) (hr : meth.sig.returnType = none) (hlocks : meth.locks = false) {i2 : Nat → Int32} {j2 : Nat → Int64} {a2 : Nat → Nat → Int32} {b2 : Nat → Nat → Int64} {r2 : Int32} (i : Nat → Int32) (j : Nat → Int64) (a : Nat → Nat → Int32) (b : Nat → Nat → Int64) (v4 : Int32) (v5 : Int32) (hm : m_Model_definition_b234 n i j a b v4 v5 = some (i2, j2, a2, b2, r2)) : ∀ (H : Heap) (locs : List Loc) (ls : Array Slot), va_P (dC, dI) classes (MW cI cJ cB h v i j a b) H → va_D A (MW cI cJ cB h v i j a b) → va_S A s.heap H locs → lv_has ls 7 [(0, .ref h), (4, .int v4), (5, .int v5)] → W p l e ({ frames := 6, cells := 0, slots := 0, locals := 134 } : Room) s m args below meth c H locs 0 0 (MQ below (va_Qv xV (yB dC dI cI cJ cB h v i2 j2 a2 b2 A) A) args s 0 0 A) (F0 m 234 ls []) := by
  have htt : ∀ w ∈ tw_T, w.before _ s = true := fun w h => hts w (List.mem_cons_of_mem _ h)
  intro H locs ls hP hD hS hl
  rw [m_Model_definition_b234] at hm
  refine lv_aload_n hx hb d_Model_definition_234 rfl (lv_at hl 0 rfl) ?_
  refine lv_dup hx hb d_Model_definition_235 rfl ?_
  refine va_get (D := (dC, dI)) (ci := 12) (v := .int (i 85)) (C := R_Model) (T := F_Model) (N := 127) hx hb htt iw_Model hown hK hP 0 yo_12 rfl 85 (Nat.le_of_ble_eq_true rfl) (htt _ lk_Model_431) (fun _ h9 => h9) yg_85 d_Model_definition_236 ?_
  refine lv_iload hx hb d_Model_definition_239 (lv_at hl 2 rfl) ?_
  refine lv_if_eq (tgt := 248) hx hb d_Model_definition_241 (by decide) (fun c_1 => ?_) (fun c_1 => ?_)
  · replace hm := if_t c_1 hm
    refine lv_iconst (v := 0) hx hb d_Model_definition_248 (by decide) ?_
    exact lb_Model_definition_249 l dC dI cI cJ cB adK adV adA h v n hx hb hml hown hts hK hE hA hr hlocks _ _ _ _ _ _ _ hm _ _ _ hP hD hS (lv_sub hl [0, 1] rfl)
  · replace hm := if_f c_1 hm
    refine lv_iconst (v := 1) hx hb d_Model_definition_244 (by decide) ?_
    refine lv_goto (tgt := 249) hx hb d_Model_definition_245 (by decide) ?_
    exact lb_Model_definition_249 l dC dI cI cJ cB adK adV adA h v n hx hb hml hown hts hK hE hA hr hlocks _ _ _ _ _ _ _ hm _ _ _ hP hD hS (lv_sub hl [0, 1] rfl)
def m_Model_definition_b195 (n : Nat) (rc_160 : (Nat → Int32) → (Nat → Int64) → (Nat → Nat → Int32) → (Nat → Nat → Int64) → Int32 → Int32 → Int32 → Int32 → Option ((Nat → Int32) × (Nat → Int64) × (Nat → Nat → Int32) × (Nat → Nat → Int64) × Int32)) (i : Nat → Int32) (j : Nat → Int64) (a : Nat → Nat → Int32) (b : Nat → Nat → Int64) (v1 : Int32) (v4 : Int32) (v6 : Int32) (s0 : Int32) : Option ((Nat → Int32) × (Nat → Int64) × (Nat → Nat → Int32) × (Nat → Nat → Int64) × Int32) := ob1 (v6 + 1 : Int32) (fun x_1 => rc_160 i j a b v1 v4 s0 x_1)
set_option maxHeartbeats 4000000 in
set_option maxRecDepth 100000 in
theorem lb_Model_definition_195 (l : Launch) (dC : Nat → ClassId) (dI : Nat → Nat → Nat) (cI cJ cB : ClassId) (adK adV adA : Nat → Nat) (h : Nat) (v : Nat → Nat) (n : Nat) {p : Program} {e : Env} {s : State} {m : MethodId} {args : Array Value} {below : List Frame} {meth : Method} {c : Code} {A : Nat → Prop} (hx : p.tables.exec = Jvm.exec) (hb : c.code = b_Model_definition) (hml : c.maxLocals = 7) (hown : s.vm.findClass R_Model = some m.cls) (hts : ∀ w ∈ w_Model_definition, w.before args s = true) (hK : va_K (dC, dI) classes [(cI, .int), (cJ, .long), (cB, .byte)] s) (hE : tw_E adK adV adA A s s.heap) (hA : ∀ q : Nat, s.heap.size ≤ q → A q) (hr : meth.sig.returnType = none) (hlocks : meth.locks = false) {i2 : Nat → Int32} {j2 : Nat → Int64} {a2 : Nat → Nat → Int32} {b2 : Nat → Nat → Int64} {r2 : Int32} (rc_160 : (Nat → Int32) → (Nat → Int64) → (Nat → Nat → Int32) → (Nat → Nat → Int64) → Int32 → Int32 → Int32 → Int32 → Option ((Nat → Int32) × (Nat → Int64) × (Nat → Nat → Int32) × (Nat → Nat → Int64) × Int32)) (Hrc_160 : ∀ (i : Nat → Int32) (j : Nat → Int64) (a : Nat → Nat → Int32) (b : Nat → Nat → Int64) (v1 : Int32) (v4 : Int32) (v5 : Int32) (v6 : Int32), rc_160 i j a b v1 v4 v5 v6 = some (i2, j2, a2, b2, r2) → ∀ (H : Heap) (locs : List Loc) (ls : Array Slot), va_P (dC, dI) classes (MW cI cJ cB h v i j a b) H → va_D A (MW cI cJ cB h v i j a b) → va_S A s.heap H locs → lv_has ls 7 [(0, .ref h), (1, .int v1), (4, .int v4), (5, .int v5), (6, .int v6)] → W p l e ({ frames := 6, cells := 0, slots := 0, locals := 134 } : Room) s m args below meth c H locs 0 0 (MQ below (va_Qv xV (yB dC dI cI cJ cB h v i2 j2 a2 b2 A) A) args s 0 0 A) (F0 m 160 ls [])) (i : Nat → Int32) (j : Nat → Int64) (a : Nat → Nat → Int32) (b : Nat → Nat → Int64) (v1 : Int32) (v4 : Int32) (v6 : Int32) (s0 : Int32) (hm : m_Model_definition_b195 n rc_160 i j a b v1 v4 v6 s0 = some (i2, j2, a2, b2, r2)) : ∀ (H : Heap) (locs : List Loc) (ls : Array Slot), va_P (dC, dI) classes (MW cI cJ cB h v i j a b) H → va_D A (MW cI cJ cB h v i j a b) → va_S A s.heap H locs → lv_has ls 7 [(0, .ref h), (1, .int v1), (4, .int v4), (6, .int v6)] → W p l e ({ frames := 6, cells := 0, slots := 0, locals := 134 } : Room) s m args below meth c H locs 0 0 (MQ below (va_Qv xV (yB dC dI cI cJ cB h v i2 j2 a2 b2 A) A) args s 0 0 A) (F0 m 195 ls [.int s0]) := by
  have htt : ∀ w ∈ tw_T, w.before _ s = true := fun w h => hts w (List.mem_cons_of_mem _ h)
  intro H locs ls hP hD hS hl
  rw [m_Model_definition_b195] at hm
  refine lv_istore (lv' := [(5, .int s0), (0, .ref h), (1, .int v1), (4, .int v4), (6, .int v6)]) hx hb d_Model_definition_195 hl (by decide) rfl (fun ls hl => ?_)
  obtain ⟨x_1, ex_1⟩ : ∃ y9 : Int32, y9 = v6 + 1 := ⟨_, rfl⟩
  replace hm := ob1_at ex_1 hm
  refine lv_iinc (v := x_1) (lv' := [(6, .int x_1), (5, .int s0), (0, .ref h), (1, .int v1), (4, .int v4)]) hx hb d_Model_definition_197 hl (k := 4) rfl (by rw [ex_1]; rfl) (by decide) rfl (fun ls hl => ?_)
  refine lv_goto (tgt := 160) hx hb d_Model_definition_200 (by decide) ?_
  exact Hrc_160 _ _ _ _ _ _ _ _ hm _ _ _ hP hD hS (lv_sub hl [2, 3, 4, 1, 0] rfl)
def m_Model_definition_b194 (n : Nat) (rc_160 : (Nat → Int32) → (Nat → Int64) → (Nat → Nat → Int32) → (Nat → Nat → Int64) → Int32 → Int32 → Int32 → Int32 → Option ((Nat → Int32) × (Nat → Int64) × (Nat → Nat → Int32) × (Nat → Nat → Int64) × Int32)) (i : Nat → Int32) (j : Nat → Int64) (a : Nat → Nat → Int32) (b : Nat → Nat → Int64) (v1 : Int32) (v4 : Int32) (v6 : Int32) : Option ((Nat → Int32) × (Nat → Int64) × (Nat → Nat → Int32) × (Nat → Nat → Int64) × Int32) := m_Model_definition_b195 n rc_160 i j a b v1 v4 v6 (0 : Int32)
set_option maxHeartbeats 4000000 in
set_option maxRecDepth 100000 in
theorem lb_Model_definition_194 (l : Launch) (dC : Nat → ClassId) (dI : Nat → Nat → Nat) (cI cJ cB : ClassId) (adK adV adA : Nat → Nat) (h : Nat) (v : Nat → Nat) (n : Nat) {p : Program} {e : Env} {s : State} {m : MethodId} {args : Array Value} {below : List Frame} {meth : Method} {c : Code} {A : Nat → Prop} (hx : p.tables.exec = Jvm.exec) (hb : c.code = b_Model_definition) (hml : c.maxLocals = 7) (hown : s.vm.findClass R_Model = some m.cls) (hts : ∀ w ∈ w_Model_definition, w.before args s = true) (hK : va_K (dC, dI) classes [(cI, .int), (cJ, .long), (cB, .byte)] s) (hE : tw_E adK adV adA A s s.heap) (hA : ∀ q : Nat, s.heap.size ≤ q → A q) (hr : meth.sig.returnType = none) (hlocks : meth.locks = false) {i2 : Nat → Int32} {j2 : Nat → Int64} {a2 : Nat → Nat → Int32} {b2 : Nat → Nat → Int64} {r2 : Int32} (rc_160 : (Nat → Int32) → (Nat → Int64) → (Nat → Nat → Int32) → (Nat → Nat → Int64) → Int32 → Int32 → Int32 → Int32 → Option ((Nat → Int32) × (Nat → Int64) × (Nat → Nat → Int32) × (Nat → Nat → Int64) × Int32)) (Hrc_160 : ∀ (i : Nat → Int32) (j : Nat → Int64) (a : Nat → Nat → Int32) (b : Nat → Nat → Int64) (v1 : Int32) (v4 : Int32) (v5 : Int32) (v6 : Int32), rc_160 i j a b v1 v4 v5 v6 = some (i2, j2, a2, b2, r2) → ∀ (H : Heap) (locs : List Loc) (ls : Array Slot), va_P (dC, dI) classes (MW cI cJ cB h v i j a b) H → va_D A (MW cI cJ cB h v i j a b) → va_S A s.heap H locs → lv_has ls 7 [(0, .ref h), (1, .int v1), (4, .int v4), (5, .int v5), (6, .int v6)] → W p l e ({ frames := 6, cells := 0, slots := 0, locals := 134 } : Room) s m args below meth c H locs 0 0 (MQ below (va_Qv xV (yB dC dI cI cJ cB h v i2 j2 a2 b2 A) A) args s 0 0 A) (F0 m 160 ls [])) (i : Nat → Int32) (j : Nat → Int64) (a : Nat → Nat → Int32) (b : Nat → Nat → Int64) (v1 : Int32) (v4 : Int32) (v6 : Int32) (hm : m_Model_definition_b194 n rc_160 i j a b v1 v4 v6 = some (i2, j2, a2, b2, r2)) : ∀ (H : Heap) (locs : List Loc) (ls : Array Slot), va_P (dC, dI) classes (MW cI cJ cB h v i j a b) H → va_D A (MW cI cJ cB h v i j a b) → va_S A s.heap H locs → lv_has ls 7 [(0, .ref h), (1, .int v1), (4, .int v4), (6, .int v6)] → W p l e ({ frames := 6, cells := 0, slots := 0, locals := 134 } : Room) s m args below meth c H locs 0 0 (MQ below (va_Qv xV (yB dC dI cI cJ cB h v i2 j2 a2 b2 A) A) args s 0 0 A) (F0 m 194 ls []) := by
  have htt : ∀ w ∈ tw_T, w.before _ s = true := fun w h => hts w (List.mem_cons_of_mem _ h)
  intro H locs ls hP hD hS hl
  rw [m_Model_definition_b194] at hm
  refine lv_iconst (v := 0) hx hb d_Model_definition_194 (by decide) ?_
  exact lb_Model_definition_195 l dC dI cI cJ cB adK adV adA h v n hx hb hml hown hts hK hE hA hr hlocks rc_160 Hrc_160 _ _ _ _ _ _ _ _ hm _ _ _ hP hD hS (lv_sub hl [0, 1, 2, 3] rfl)
def m_Model_definition_b160 (n : Nat) : Nat → (Nat → Int32) → (Nat → Int64) → (Nat → Nat → Int32) → (Nat → Nat → Int64) → Int32 → Int32 → Int32 → Int32 → Option ((Nat → Int32) × (Nat → Int64) × (Nat → Nat → Int32) × (Nat → Nat → Int64) × Int32)
  | 0, _, _, _, _, _, _, _, _ => none
  | f + 1, i, j, a, b, v1, v4, v5, v6 => if ((i 86)) ≤ v6 then if v5 = ((0 : Int32)) then m_Model_definition_b234 n i j a b v4 v5 else if (((i 33) + (i 85))) = ((40 : Int32)) then ck v1 601 (om (m_Model_fail n i j a b (11 : Int32) (a 77 v1.toNatClampNeg)) (fun i_6 j_7 a_8 b_9 r_10 => m_Model_definition_b234 n i_6 j_7 a_8 b_9 v4 v5)) else m_Model_definition_b234 n i j a b v4 v5 else if v5 = ((0 : Int32)) then m_Model_definition_b194 n (m_Model_definition_b160 n f) i j a b v1 v4 v6 else ck v6 300 (ob0 (m_Model_sameWord n i j a b (a 87 v6.toNatClampNeg) v4) (fun r_14 => if r_14 = ((0 : Int32)) then m_Model_definition_b195 n (m_Model_definition_b160 n f) i j a b v1 v4 v6 (1 : Int32) else m_Model_definition_b194 n (m_Model_definition_b160 n f) i j a b v1 v4 v6))
set_option maxHeartbeats 4000000 in
set_option maxRecDepth 100000 in
theorem lb_Model_definition_160 (l : Launch) (dC : Nat → ClassId) (dI : Nat → Nat → Nat) (cI cJ cB : ClassId) (adK adV adA : Nat → Nat) (h : Nat) (v : Nat → Nat) (n : Nat) {p : Program} {e : Env} {s : State} {m : MethodId} {args : Array Value} {below : List Frame} {meth : Method} {c : Code} {A : Nat → Prop} (hx : p.tables.exec = Jvm.exec) (hb : c.code = b_Model_definition) (hml : c.maxLocals = 7) (hown : s.vm.findClass R_Model = some m.cls) (hts : ∀ w ∈ w_Model_definition, w.before args s = true) (hK : va_K (dC, dI) classes [(cI, .int), (cJ, .long), (cB, .byte)] s) (hE : tw_E adK adV adA A s s.heap) (hA : ∀ q : Nat, s.heap.size ≤ q → A q) (hr : meth.sig.returnType = none) (hlocks : meth.locks = false) {i2 : Nat → Int32} {j2 : Nat → Int64} {a2 : Nat → Nat → Int32} {b2 : Nat → Nat → Int64} {r2 : Int32} : ∀ (f : Nat) (i : Nat → Int32) (j : Nat → Int64) (a : Nat → Nat → Int32) (b : Nat → Nat → Int64) (v1 : Int32) (v4 : Int32) (v5 : Int32) (v6 : Int32), m_Model_definition_b160 n f i j a b v1 v4 v5 v6 = some (i2, j2, a2, b2, r2) → ∀ (H : Heap) (locs : List Loc) (ls : Array Slot), va_P (dC, dI) classes (MW cI cJ cB h v i j a b) H → va_D A (MW cI cJ cB h v i j a b) → va_S A s.heap H locs → lv_has ls 7 [(0, .ref h), (1, .int v1), (4, .int v4), (5, .int v5), (6, .int v6)] → W p l e ({ frames := 6, cells := 0, slots := 0, locals := 134 } : Room) s m args below meth c H locs 0 0 (MQ below (va_Qv xV (yB dC dI cI cJ cB h v i2 j2 a2 b2 A) A) args s 0 0 A) (F0 m 160 ls []) := by
  have htt : ∀ w ∈ tw_T, w.before _ s = true := fun w h => hts w (List.mem_cons_of_mem _ h)
  intro f
  induction f with
  | zero =>
    intro i j a b v1 v4 v5 v6 hm
    rw [m_Model_definition_b160] at hm
    cases hm
  | succ f ih =>
    intro i j a b v1 v4 v5 v6 hm H locs ls hP hD hS hl
    rw [m_Model_definition_b160] at hm
    refine lv_iload hx hb d_Model_definition_160 (lv_at hl 4 rfl) ?_
    refine lv_aload_n hx hb d_Model_definition_162 rfl (lv_at hl 0 rfl) ?_
    refine va_get (D := (dC, dI)) (ci := 12) (v := .int (i 86)) (C := R_Model) (T := F_Model) (N := 127) hx hb htt iw_Model hown hK hP 0 yo_12 rfl 86 (Nat.le_of_ble_eq_true rfl) (htt _ lk_Model_482) (fun _ h9 => h9) yg_86 d_Model_definition_163 ?_
    refine lv_icmp_ge (tgt := 203) hx hb d_Model_definition_166 (by decide) (fun c_1 => ?_) (fun c_1 => ?_)
    · replace hm := if_t c_1 hm
      refine lv_iload hx hb d_Model_definition_203 (lv_at hl 3 rfl) ?_
      refine lv_if_eq (tgt := 234) hx hb d_Model_definition_205 (by decide) (fun c_2 => ?_) (fun c_2 => ?_)
      · replace hm := if_t c_2 hm
        exact lb_Model_definition_234 l dC dI cI cJ cB adK adV adA h v n hx hb hml hown hts hK hE hA hr hlocks _ _ _ _ _ _ hm _ _ _ hP hD hS (lv_sub hl [0, 2, 3] rfl)
      · replace hm := if_f c_2 hm
        refine lv_aload_n hx hb d_Model_definition_208 rfl (lv_at hl 0 rfl) ?_
        refine va_get (D := (dC, dI)) (ci := 12) (v := .int (i 33)) (C := R_Model) (T := F_Model) (N := 127) hx hb htt iw_Model hown hK hP 0 yo_12 rfl 33 (Nat.le_of_ble_eq_true rfl) (htt _ lk_Model_344) (fun _ h9 => h9) yg_33 d_Model_definition_209 ?_
        refine lv_aload_n hx hb d_Model_definition_212 rfl (lv_at hl 0 rfl) ?_
        refine va_get (D := (dC, dI)) (ci := 12) (v := .int (i 85)) (C := R_Model) (T := F_Model) (N := 127) hx hb htt iw_Model hown hK hP 0 yo_12 rfl 85 (Nat.le_of_ble_eq_true rfl) (htt _ lk_Model_431) (fun _ h9 => h9) yg_85 d_Model_definition_213 ?_
        refine lv_iadd hx hb d_Model_definition_216 ?_
        refine lv_bipush (v := 40) hx hb d_Model_definition_217 (by decide) ?_
        refine lv_icmp_ne (tgt := 234) hx hb d_Model_definition_219 (by decide) (fun c_3 => ?_) (fun c_3 => ?_)
        · replace hm := if_f c_3 hm
          exact lb_Model_definition_234 l dC dI cI cJ cB adK adV adA h v n hx hb hml hown hts hK hE hA hr hlocks _ _ _ _ _ _ hm _ _ _ hP hD hS (lv_sub hl [0, 2, 3] rfl)
        · replace hm := if_t c_3 hm
          refine lv_aload_n hx hb d_Model_definition_222 rfl (lv_at hl 0 rfl) ?_
          refine lv_bipush (v := 11) hx hb d_Model_definition_223 (by decide) ?_
          refine lv_aload_n hx hb d_Model_definition_225 rfl (lv_at hl 0 rfl) ?_
          refine va_get (D := (dC, dI)) (ci := 12) (v := .ref ((v 77))) (C := R_Model) (T := F_Model) (N := 127) hx hb htt iw_Model hown hK hP 0 yo_12 rfl 77 (Nat.le_of_ble_eq_true rfl) (htt _ lk_Model_267) (fun _ h9 => h9) yg_77 d_Model_definition_226 ?_
          refine lv_iload_n hx hb d_Model_definition_229 rfl (lv_at hl 1 rfl) ?_
          obtain ⟨h_4, hm⟩ := ck_some hm
          refine va_iald hx hb hK hP 50 0 ya_77 rfl h_4 d_Model_definition_230 ?_
          obtain ⟨i_6, j_7, a_8, b_9, r_10, h_5, hm⟩ := om_some hm
          have hFc := x_free hD hS hA
          refine va_callv (va_runV (As := [.int 11, .int (a 77 v1.toNatClampNeg)]) (rest := []) ⟨hx, hb, hml, hown, hts⟩ (x_Model_fail l dC dI cI cJ cB adK adV adA h v H.size n h_5) (cwV 2 hts (tw_GV tw_cons cw_Model_fail lk_Model_437 in_Model_fail sel_Model_fail ini_Model) rfl rfl rfl ⟨rfl, hd_Model_fail⟩ ⟨Nat.le_of_ble_eq_true rfl, Nat.le_of_ble_eq_true rfl⟩) (ypV hK hP hD hS hE hFc yo_12 rfl) rfl rfl hl.1 rfl (lv_room (Nat.le_of_ble_eq_true rfl)) d_Model_definition_231 ⟨Nat.le_of_ble_eq_true rfl, Nat.le_of_ble_eq_true rfl⟩) hS (fun q _ h => hFc q h) hFc (fun u9 t9 H locs ht hvm e9 hB hz1 hk1 hS => ?_)
          obtain ⟨hP, hD⟩ := y_aft hB ht hFc
          clear hFc hk1 hz1 hvm hB ht
          exact lb_Model_definition_234 l dC dI cI cJ cB adK adV adA h v n hx hb hml hown hts hK hE hA hr hlocks _ _ _ _ _ _ hm _ _ _ hP hD hS (lv_sub hl [0, 2, 3] rfl)
    · replace hm := if_f c_1 hm
      refine lv_iload hx hb d_Model_definition_169 (lv_at hl 3 rfl) ?_
      refine lv_if_eq (tgt := 194) hx hb d_Model_definition_171 (by decide) (fun c_11 => ?_) (fun c_11 => ?_)
      · replace hm := if_t c_11 hm
        exact lb_Model_definition_194 l dC dI cI cJ cB adK adV adA h v n hx hb hml hown hts hK hE hA hr hlocks (m_Model_definition_b160 n f) ih _ _ _ _ _ _ _ hm _ _ _ hP hD hS (lv_sub hl [0, 1, 2, 4] rfl)
      · replace hm := if_f c_11 hm
        refine lv_aload_n hx hb d_Model_definition_174 rfl (lv_at hl 0 rfl) ?_
        refine lv_aload_n hx hb d_Model_definition_175 rfl (lv_at hl 0 rfl) ?_
        refine va_get (D := (dC, dI)) (ci := 12) (v := .ref ((v 87))) (C := R_Model) (T := F_Model) (N := 127) hx hb htt iw_Model hown hK hP 0 yo_12 rfl 87 (Nat.le_of_ble_eq_true rfl) (htt _ lk_Model_285) (fun _ h9 => h9) yg_87 d_Model_definition_176 ?_
        refine lv_iload hx hb d_Model_definition_179 (lv_at hl 4 rfl) ?_
        obtain ⟨h_12, hm⟩ := ck_some hm
        refine va_iald hx hb hK hP 56 0 ya_87 rfl h_12 d_Model_definition_181 ?_
        refine lv_iload hx hb d_Model_definition_182 (lv_at hl 2 rfl) ?_
        obtain ⟨r_14, h_13, hm⟩ := ob0_some hm
        have hFc := x_free0 hS hA
        refine va_calli (va_runV (As := [.int (a 87 v6.toNatClampNeg), .int v4]) (rest := []) ⟨hx, hb, hml, hown, hts⟩ (x_Model_sameWord l dC dI cI cJ cB adK adV adA h v H.size n h_13) (cwV 2 hts (tw_GV tw_cons cw_Model_sameWord lk_Model_91 in_Model_sameWord sel_Model_sameWord ini_Model) rfl rfl rfl ⟨rfl, hd_Model_sameWord⟩ ⟨Nat.le_of_ble_eq_true rfl, Nat.le_of_ble_eq_true rfl⟩) (ypVr hK hP hS hE hFc yo_12 rfl) rfl rfl hl.1 rfl (lv_room (Nat.le_of_ble_eq_true rfl)) d_Model_definition_184 ⟨Nat.le_of_ble_eq_true rfl, Nat.le_of_ble_eq_true rfl⟩) hS (fun q _ h => hFc q h) hFc (fun r9 u9 t9 H locs ht hvm e9 hB hz1 hk1 hS => ?_)
        have e9 : r_14 = r9 := e9
        subst e9
        replace hP := x_keep hP hk1
        clear hFc hk1 hz1 hvm hB ht
        refine lv_if_ne (tgt := 194) hx hb d_Model_definition_187 (by decide) (fun c_15 => ?_) (fun c_15 => ?_)
        · replace hm := if_f c_15 hm
          exact lb_Model_definition_194 l dC dI cI cJ cB adK adV adA h v n hx hb hml hown hts hK hE hA hr hlocks (m_Model_definition_b160 n f) ih _ _ _ _ _ _ _ hm _ _ _ hP hD hS (lv_sub hl [0, 1, 2, 4] rfl)
        · replace hm := if_t c_15 hm
          refine lv_iconst (v := 1) hx hb d_Model_definition_190 (by decide) ?_
          refine lv_goto (tgt := 195) hx hb d_Model_definition_191 (by decide) ?_
          exact lb_Model_definition_195 l dC dI cI cJ cB adK adV adA h v n hx hb hml hown hts hK hE hA hr hlocks (m_Model_definition_b160 n f) ih _ _ _ _ _ _ _ _ hm _ _ _ hP hD hS (lv_sub hl [0, 1, 2, 4] rfl)
def m_Model_definition_b155 (n : Nat) (i : Nat → Int32) (j : Nat → Int64) (a : Nat → Nat → Int32) (b : Nat → Nat → Int64) (v1 : Int32) (v4 : Int32) (s0 : Int32) : Option ((Nat → Int32) × (Nat → Int64) × (Nat → Nat → Int32) × (Nat → Nat → Int64) × Int32) := m_Model_definition_b160 n n i j a b v1 v4 s0 (0 : Int32)
set_option maxHeartbeats 4000000 in
set_option maxRecDepth 100000 in
theorem lb_Model_definition_155 (l : Launch) (dC : Nat → ClassId) (dI : Nat → Nat → Nat) (cI cJ cB : ClassId) (adK adV adA : Nat → Nat) (h : Nat) (v : Nat → Nat) (n : Nat) {p : Program} {e : Env} {s : State} {m : MethodId} {args : Array Value} {below : List Frame} {meth : Method} {c : Code} {A : Nat → Prop} (hx : p.tables.exec = Jvm.exec) (hb : c.code = b_Model_definition) (hml : c.maxLocals = 7) (hown : s.vm.findClass R_Model = some m.cls) (hts : ∀ w ∈ w_Model_definition, w.before args s = true) (hK : va_K (dC, dI) classes [(cI, .int), (cJ, .long), (cB, .byte)] s) (hE : tw_E adK adV adA A s s.heap) (hA : ∀ q : Nat, s.heap.size ≤ q → A q) (hr : meth.sig.returnType = none) (hlocks : meth.locks = false) {i2 : Nat → Int32} {j2 : Nat → Int64} {a2 : Nat → Nat → Int32} {b2 : Nat → Nat → Int64} {r2 : Int32} (i : Nat → Int32) (j : Nat → Int64) (a : Nat → Nat → Int32) (b : Nat → Nat → Int64) (v1 : Int32) (v4 : Int32) (s0 : Int32) (hm : m_Model_definition_b155 n i j a b v1 v4 s0 = some (i2, j2, a2, b2, r2)) : ∀ (H : Heap) (locs : List Loc) (ls : Array Slot), va_P (dC, dI) classes (MW cI cJ cB h v i j a b) H → va_D A (MW cI cJ cB h v i j a b) → va_S A s.heap H locs → lv_has ls 7 [(0, .ref h), (1, .int v1), (4, .int v4)] → W p l e ({ frames := 6, cells := 0, slots := 0, locals := 134 } : Room) s m args below meth c H locs 0 0 (MQ below (va_Qv xV (yB dC dI cI cJ cB h v i2 j2 a2 b2 A) A) args s 0 0 A) (F0 m 155 ls [.int s0]) := by
  have htt : ∀ w ∈ tw_T, w.before _ s = true := fun w h => hts w (List.mem_cons_of_mem _ h)
  intro H locs ls hP hD hS hl
  rw [m_Model_definition_b155] at hm
  refine lv_istore (lv' := [(5, .int s0), (0, .ref h), (1, .int v1), (4, .int v4)]) hx hb d_Model_definition_155 hl (by decide) rfl (fun ls hl => ?_)
  refine lv_iconst (v := 0) hx hb d_Model_definition_157 (by decide) ?_
  refine lv_istore (lv' := [(6, .int 0), (5, .int s0), (0, .ref h), (1, .int v1), (4, .int v4)]) hx hb d_Model_definition_158 hl (by decide) rfl (fun ls hl => ?_)
  exact lb_Model_definition_160 l dC dI cI cJ cB adK adV adA h v n hx hb hml hown hts hK hE hA hr hlocks n _ _ _ _ _ _ _ _ hm _ _ _ hP hD hS (lv_sub hl [2, 3, 4, 1, 0] rfl)
def m_Model_definition_b98 (n : Nat) (i : Nat → Int32) (j : Nat → Int64) (a : Nat → Nat → Int32) (b : Nat → Nat → Int64)  : Option ((Nat → Int32) × (Nat → Int64) × (Nat → Nat → Int32) × (Nat → Nat → Int64) × Int32) := ob1 (upd i 84 1 : Nat → Int32) (fun i_1 => some (i_1, j, a, b, (0 : Int32)))
set_option maxHeartbeats 4000000 in
set_option maxRecDepth 100000 in
theorem lb_Model_definition_98 (l : Launch) (dC : Nat → ClassId) (dI : Nat → Nat → Nat) (cI cJ cB : ClassId) (adK adV adA : Nat → Nat) (h : Nat) (v : Nat → Nat) (n : Nat) {p : Program} {e : Env} {s : State} {m : MethodId} {args : Array Value} {below : List Frame} {meth : Method} {c : Code} {A : Nat → Prop} (hx : p.tables.exec = Jvm.exec) (hb : c.code = b_Model_definition) (hml : c.maxLocals = 7) (hown : s.vm.findClass R_Model = some m.cls) (hts : ∀ w ∈ w_Model_definition, w.before args s = true) (hK : va_K (dC, dI) classes [(cI, .int), (cJ, .long), (cB, .byte)] s) (hE : tw_E adK adV adA A s s.heap) (hA : ∀ q : Nat, s.heap.size ≤ q → A q) (hr : meth.sig.returnType = none) (hlocks : meth.locks = false) {i2 : Nat → Int32} {j2 : Nat → Int64} {a2 : Nat → Nat → Int32} {b2 : Nat → Nat → Int64} {r2 : Int32} (i : Nat → Int32) (j : Nat → Int64) (a : Nat → Nat → Int32) (b : Nat → Nat → Int64)  (hm : m_Model_definition_b98 n i j a b = some (i2, j2, a2, b2, r2)) : ∀ (H : Heap) (locs : List Loc) (ls : Array Slot), va_P (dC, dI) classes (MW cI cJ cB h v i j a b) H → va_D A (MW cI cJ cB h v i j a b) → va_S A s.heap H locs → lv_has ls 7 [(0, .ref h)] → W p l e ({ frames := 6, cells := 0, slots := 0, locals := 134 } : Room) s m args below meth c H locs 0 0 (MQ below (va_Qv xV (yB dC dI cI cJ cB h v i2 j2 a2 b2 A) A) args s 0 0 A) (F0 m 98 ls []) := by
  have htt : ∀ w ∈ tw_T, w.before _ s = true := fun w h => hts w (List.mem_cons_of_mem _ h)
  intro H locs ls hP hD hS hl
  rw [m_Model_definition_b98] at hm
  refine lv_aload_n hx hb d_Model_definition_98 rfl (lv_at hl 0 rfl) ?_
  refine lv_iconst (v := 1) hx hb d_Model_definition_99 (by decide) ?_
  refine va_put (D := (dC, dI)) (ci := 12) (v := .int 1) (ty := .int) (C := R_Model) (T := F_Model) (N := 127) hx hb htt iw_Model t_Model t_Model_ok n_Model hown hK hP hD hS 0 yo_12 rfl 84 (Nat.le_of_ble_eq_true rfl) (htt _ lk_Model_428) (fun _ h9 => h9) rfl (by decide +kernel) rfl rfl yl_84 d_Model_definition_100 (fun H locs hP hD hS => ?_)
  obtain ⟨i_1, ei_1⟩ : ∃ y9 : Nat → Int32, y9 = upd i 84 1 := ⟨_, rfl⟩
  replace hm := ob1_at ei_1 hm
  obtain ⟨hP, hD⟩ := yw_84 ei_1 hP hD
  refine lv_goto (tgt := 385) hx hb d_Model_definition_103 (by decide) ?_
  obtain ⟨e1i, e1j, e1a, e1b, e3⟩ := re4m hm
  obtain ⟨hP, hD⟩ := y_eq e1i e1j e1a e1b hP hD
  exact W.vret hx hb hr (fun t9 ht hW => ⟨⟨(), rfl, trivial, by rw [ht]; exact hP, hD⟩, hS.F ht⟩) hS.2.2 d_Model_definition_385
def m_Model_definition_b86 (n : Nat) (i : Nat → Int32) (j : Nat → Int64) (a : Nat → Nat → Int32) (b : Nat → Nat → Int64) (v1 : Int32) : Option ((Nat → Int32) × (Nat → Int64) × (Nat → Nat → Int32) × (Nat → Nat → Int64) × Int32) := ck v1 601 (om (m_Model_fail n i j a b (7 : Int32) (a 77 v1.toNatClampNeg)) (fun i_3 j_4 a_5 b_6 r_7 => m_Model_definition_b98 n i_3 j_4 a_5 b_6))
set_option maxHeartbeats 4000000 in
set_option maxRecDepth 100000 in
theorem lb_Model_definition_86 (l : Launch) (dC : Nat → ClassId) (dI : Nat → Nat → Nat) (cI cJ cB : ClassId) (adK adV adA : Nat → Nat) (h : Nat) (v : Nat → Nat) (n : Nat) {p : Program} {e : Env} {s : State} {m : MethodId} {args : Array Value} {below : List Frame} {meth : Method} {c : Code} {A : Nat → Prop} (hx : p.tables.exec = Jvm.exec) (hb : c.code = b_Model_definition) (hml : c.maxLocals = 7) (hown : s.vm.findClass R_Model = some m.cls) (hts : ∀ w ∈ w_Model_definition, w.before args s = true) (hK : va_K (dC, dI) classes [(cI, .int), (cJ, .long), (cB, .byte)] s) (hE : tw_E adK adV adA A s s.heap) (hA : ∀ q : Nat, s.heap.size ≤ q → A q) (hr : meth.sig.returnType = none) (hlocks : meth.locks = false) {i2 : Nat → Int32} {j2 : Nat → Int64} {a2 : Nat → Nat → Int32} {b2 : Nat → Nat → Int64} {r2 : Int32} (i : Nat → Int32) (j : Nat → Int64) (a : Nat → Nat → Int32) (b : Nat → Nat → Int64) (v1 : Int32) (hm : m_Model_definition_b86 n i j a b v1 = some (i2, j2, a2, b2, r2)) : ∀ (H : Heap) (locs : List Loc) (ls : Array Slot), va_P (dC, dI) classes (MW cI cJ cB h v i j a b) H → va_D A (MW cI cJ cB h v i j a b) → va_S A s.heap H locs → lv_has ls 7 [(0, .ref h), (1, .int v1)] → W p l e ({ frames := 6, cells := 0, slots := 0, locals := 134 } : Room) s m args below meth c H locs 0 0 (MQ below (va_Qv xV (yB dC dI cI cJ cB h v i2 j2 a2 b2 A) A) args s 0 0 A) (F0 m 86 ls []) := by
  have htt : ∀ w ∈ tw_T, w.before _ s = true := fun w h => hts w (List.mem_cons_of_mem _ h)
  intro H locs ls hP hD hS hl
  rw [m_Model_definition_b86] at hm
  refine lv_aload_n hx hb d_Model_definition_86 rfl (lv_at hl 0 rfl) ?_
  refine lv_bipush (v := 7) hx hb d_Model_definition_87 (by decide) ?_
  refine lv_aload_n hx hb d_Model_definition_89 rfl (lv_at hl 0 rfl) ?_
  refine va_get (D := (dC, dI)) (ci := 12) (v := .ref ((v 77))) (C := R_Model) (T := F_Model) (N := 127) hx hb htt iw_Model hown hK hP 0 yo_12 rfl 77 (Nat.le_of_ble_eq_true rfl) (htt _ lk_Model_267) (fun _ h9 => h9) yg_77 d_Model_definition_90 ?_
  refine lv_iload_n hx hb d_Model_definition_93 rfl (lv_at hl 1 rfl) ?_
  obtain ⟨h_1, hm⟩ := ck_some hm
  refine va_iald hx hb hK hP 50 0 ya_77 rfl h_1 d_Model_definition_94 ?_
  obtain ⟨i_3, j_4, a_5, b_6, r_7, h_2, hm⟩ := om_some hm
  have hFc := x_free hD hS hA
  refine va_callv (va_runV (As := [.int 7, .int (a 77 v1.toNatClampNeg)]) (rest := []) ⟨hx, hb, hml, hown, hts⟩ (x_Model_fail l dC dI cI cJ cB adK adV adA h v H.size n h_2) (cwV 2 hts (tw_GV tw_cons cw_Model_fail lk_Model_437 in_Model_fail sel_Model_fail ini_Model) rfl rfl rfl ⟨rfl, hd_Model_fail⟩ ⟨Nat.le_of_ble_eq_true rfl, Nat.le_of_ble_eq_true rfl⟩) (ypV hK hP hD hS hE hFc yo_12 rfl) rfl rfl hl.1 rfl (lv_room (Nat.le_of_ble_eq_true rfl)) d_Model_definition_95 ⟨Nat.le_of_ble_eq_true rfl, Nat.le_of_ble_eq_true rfl⟩) hS (fun q _ h => hFc q h) hFc (fun u9 t9 H locs ht hvm e9 hB hz1 hk1 hS => ?_)
  obtain ⟨hP, hD⟩ := y_aft hB ht hFc
  clear hFc hk1 hz1 hvm hB ht
  exact lb_Model_definition_98 l dC dI cI cJ cB adK adV adA h v n hx hb hml hown hts hK hE hA hr hlocks _ _ _ _ hm _ _ _ hP hD hS (lv_sub hl [0] rfl)
def m_Model_definition_b70 (n : Nat) (i : Nat → Int32) (j : Nat → Int64) (a : Nat → Nat → Int32) (b : Nat → Nat → Int64) (v1 : Int32) (v3 : Int32) (v4 : Int32) : Option ((Nat → Int32) × (Nat → Int64) × (Nat → Nat → Int32) × (Nat → Nat → Int64) × Int32) := if v3 = ((0 : Int32)) then m_Model_definition_b86 n i j a b v1 else ob0 (m_Model_isText n i j a b v4 (9 : Nat)) (fun r_3 => if r_3 = ((0 : Int32)) then m_Model_definition_b86 n i j a b v1 else m_Model_definition_b98 n i j a b)
set_option maxHeartbeats 4000000 in
set_option maxRecDepth 100000 in
theorem lb_Model_definition_70 (l : Launch) (dC : Nat → ClassId) (dI : Nat → Nat → Nat) (cI cJ cB : ClassId) (adK adV adA : Nat → Nat) (h : Nat) (v : Nat → Nat) (n : Nat) {p : Program} {e : Env} {s : State} {m : MethodId} {args : Array Value} {below : List Frame} {meth : Method} {c : Code} {A : Nat → Prop} (hx : p.tables.exec = Jvm.exec) (hb : c.code = b_Model_definition) (hml : c.maxLocals = 7) (hown : s.vm.findClass R_Model = some m.cls) (hts : ∀ w ∈ w_Model_definition, w.before args s = true) (hK : va_K (dC, dI) classes [(cI, .int), (cJ, .long), (cB, .byte)] s) (hE : tw_E adK adV adA A s s.heap) (hA : ∀ q : Nat, s.heap.size ≤ q → A q) (hr : meth.sig.returnType = none) (hlocks : meth.locks = false) {i2 : Nat → Int32} {j2 : Nat → Int64} {a2 : Nat → Nat → Int32} {b2 : Nat → Nat → Int64} {r2 : Int32} (i : Nat → Int32) (j : Nat → Int64) (a : Nat → Nat → Int32) (b : Nat → Nat → Int64) (v1 : Int32) (v3 : Int32) (v4 : Int32) (hm : m_Model_definition_b70 n i j a b v1 v3 v4 = some (i2, j2, a2, b2, r2)) : ∀ (H : Heap) (locs : List Loc) (ls : Array Slot), va_P (dC, dI) classes (MW cI cJ cB h v i j a b) H → va_D A (MW cI cJ cB h v i j a b) → va_S A s.heap H locs → lv_has ls 7 [(0, .ref h), (1, .int v1), (3, .int v3), (4, .int v4)] → W p l e ({ frames := 6, cells := 0, slots := 0, locals := 134 } : Room) s m args below meth c H locs 0 0 (MQ below (va_Qv xV (yB dC dI cI cJ cB h v i2 j2 a2 b2 A) A) args s 0 0 A) (F0 m 70 ls []) := by
  have htt : ∀ w ∈ tw_T, w.before _ s = true := fun w h => hts w (List.mem_cons_of_mem _ h)
  intro H locs ls hP hD hS hl
  rw [m_Model_definition_b70] at hm
  refine lv_iload_n hx hb d_Model_definition_70 rfl (lv_at hl 2 rfl) ?_
  refine lv_if_eq (tgt := 86) hx hb d_Model_definition_71 (by decide) (fun c_1 => ?_) (fun c_1 => ?_)
  · replace hm := if_t c_1 hm
    exact lb_Model_definition_86 l dC dI cI cJ cB adK adV adA h v n hx hb hml hown hts hK hE hA hr hlocks _ _ _ _ _ hm _ _ _ hP hD hS (lv_sub hl [0, 1] rfl)
  · replace hm := if_f c_1 hm
    refine lv_aload_n hx hb d_Model_definition_74 rfl (lv_at hl 0 rfl) ?_
    refine lv_iload hx hb d_Model_definition_75 (lv_at hl 3 rfl) ?_
    refine tw_ldcwS hx hb hown (show vk_R "TurtleWorldModel" 471 _ (adK 9) s from hE.ref 9 (by decide)) d_Model_definition_77 ?_
    obtain ⟨r_3, h_2, hm⟩ := ob0_some hm
    have hFc := x_free0 hS hA
    refine va_calli (va_runV (As := [.int v4, .ref (adK 9)]) (rest := []) ⟨hx, hb, hml, hown, hts⟩ (x_Model_isText l dC dI cI cJ cB adK adV adA h v H.size n h_2) (cwV 2 hts (tw_GV tw_cons cw_Model_isText lk_Model_473 in_Model_isText sel_Model_isText ini_Model) rfl rfl rfl ⟨rfl, hd_Model_isText⟩ ⟨Nat.le_of_ble_eq_true rfl, Nat.le_of_ble_eq_true rfl⟩) (ypVr hK hP hS hE hFc yo_12 rfl) rfl rfl hl.1 rfl (lv_room (Nat.le_of_ble_eq_true rfl)) d_Model_definition_80 ⟨Nat.le_of_ble_eq_true rfl, Nat.le_of_ble_eq_true rfl⟩) hS (fun q _ h => hFc q h) hFc (fun r9 u9 t9 H locs ht hvm e9 hB hz1 hk1 hS => ?_)
    have e9 : r_3 = r9 := e9
    subst e9
    replace hP := x_keep hP hk1
    clear hFc hk1 hz1 hvm hB ht
    refine lv_if_ne (tgt := 98) hx hb d_Model_definition_83 (by decide) (fun c_4 => ?_) (fun c_4 => ?_)
    · replace hm := if_f c_4 hm
      exact lb_Model_definition_98 l dC dI cI cJ cB adK adV adA h v n hx hb hml hown hts hK hE hA hr hlocks _ _ _ _ hm _ _ _ hP hD hS (lv_sub hl [0] rfl)
    · replace hm := if_t c_4 hm
      exact lb_Model_definition_86 l dC dI cI cJ cB adK adV adA h v n hx hb hml hown hts hK hE hA hr hlocks _ _ _ _ _ hm _ _ _ hP hD hS (lv_sub hl [0, 1] rfl)
def m_Model_definition_b52 (n : Nat) (i : Nat → Int32) (j : Nat → Int64) (a : Nat → Nat → Int32) (b : Nat → Nat → Int64) (v1 : Int32) (v3 : Int32) (s0 : Int32) : Option ((Nat → Int32) × (Nat → Int64) × (Nat → Nat → Int32) × (Nat → Nat → Int64) × Int32) := if ((i 84)) = ((0 : Int32)) then if v1 = ((0 : Int32)) then ob1 (upd i 86 0 : Nat → Int32) (fun i_26 => m_Model_definition_b70 n i_26 j a b v1 v3 s0) else m_Model_definition_b70 n i j a b v1 v3 s0 else if ((i 84)) = ((1 : Int32)) then if v3 = ((0 : Int32)) then m_Model_definition_b127 n i j a b v1 else om (m_Model_isName n i j a b s0) (fun i_16 j_17 a_18 b_19 r_20 => if r_20 = ((0 : Int32)) then m_Model_definition_b127 n i_16 j_17 a_18 b_19 v1 else ob0 (m_Model_procedureOf n i_16 j_17 a_18 b_19 s0) (fun r_23 => if r_23 = ((-1 : Int32)) then m_Model_definition_b155 n i_16 j_17 a_18 b_19 v1 s0 (1 : Int32) else m_Model_definition_b155 n i_16 j_17 a_18 b_19 v1 s0 (0 : Int32))) else if ((i 84)) = ((2 : Int32)) then if v3 = ((0 : Int32)) then m_Model_definition_b321 n i j a b v1 v3 s0 else ck s0 120000 (ck ((a 3 s0.toNatClampNeg)) 300000 (if ((a 1 (a 3 s0.toNatClampNeg).toNatClampNeg)) = ((58 : Int32)) then om (m_Model_input n i j a b v1 s0) (fun i_9 j_10 a_11 b_12 r_13 => some (i_9, j_10, a_11, b_12, (0 : Int32))) else m_Model_definition_b321 n i j a b v1 v3 s0)) else m_Model_definition_b321 n i j a b v1 v3 s0
set_option maxHeartbeats 4000000 in
set_option maxRecDepth 100000 in
theorem lb_Model_definition_52 (l : Launch) (dC : Nat → ClassId) (dI : Nat → Nat → Nat) (cI cJ cB : ClassId) (adK adV adA : Nat → Nat) (h : Nat) (v : Nat → Nat) (n : Nat) {p : Program} {e : Env} {s : State} {m : MethodId} {args : Array Value} {below : List Frame} {meth : Method} {c : Code} {A : Nat → Prop} (hx : p.tables.exec = Jvm.exec) (hb : c.code = b_Model_definition) (hml : c.maxLocals = 7) (hown : s.vm.findClass R_Model = some m.cls) (hts : ∀ w ∈ w_Model_definition, w.before args s = true) (hK : va_K (dC, dI) classes [(cI, .int), (cJ, .long), (cB, .byte)] s) (hE : tw_E adK adV adA A s s.heap) (hA : ∀ q : Nat, s.heap.size ≤ q → A q) (hr : meth.sig.returnType = none) (hlocks : meth.locks = false) {i2 : Nat → Int32} {j2 : Nat → Int64} {a2 : Nat → Nat → Int32} {b2 : Nat → Nat → Int64} {r2 : Int32} (i : Nat → Int32) (j : Nat → Int64) (a : Nat → Nat → Int32) (b : Nat → Nat → Int64) (v1 : Int32) (v3 : Int32) (s0 : Int32) (hm : m_Model_definition_b52 n i j a b v1 v3 s0 = some (i2, j2, a2, b2, r2)) : ∀ (H : Heap) (locs : List Loc) (ls : Array Slot), va_P (dC, dI) classes (MW cI cJ cB h v i j a b) H → va_D A (MW cI cJ cB h v i j a b) → va_S A s.heap H locs → lv_has ls 7 [(0, .ref h), (1, .int v1), (3, .int v3)] → W p l e ({ frames := 6, cells := 0, slots := 0, locals := 134 } : Room) s m args below meth c H locs 0 0 (MQ below (va_Qv xV (yB dC dI cI cJ cB h v i2 j2 a2 b2 A) A) args s 0 0 A) (F0 m 52 ls [.int s0]) := by
  have htt : ∀ w ∈ tw_T, w.before _ s = true := fun w h => hts w (List.mem_cons_of_mem _ h)
  intro H locs ls hP hD hS hl
  rw [m_Model_definition_b52] at hm
  refine lv_istore (lv' := [(4, .int s0), (0, .ref h), (1, .int v1), (3, .int v3)]) hx hb d_Model_definition_52 hl (by decide) rfl (fun ls hl => ?_)
  refine lv_aload_n hx hb d_Model_definition_54 rfl (lv_at hl 1 rfl) ?_
  refine va_get (D := (dC, dI)) (ci := 12) (v := .int (i 84)) (C := R_Model) (T := F_Model) (N := 127) hx hb htt iw_Model hown hK hP 0 yo_12 rfl 84 (Nat.le_of_ble_eq_true rfl) (htt _ lk_Model_428) (fun _ h9 => h9) yg_84 d_Model_definition_55 ?_
  refine lv_if_ne (tgt := 106) hx hb d_Model_definition_58 (by decide) (fun c_1 => ?_) (fun c_1 => ?_)
  · replace hm := if_f c_1 hm
    refine lv_aload_n hx hb d_Model_definition_106 rfl (lv_at hl 1 rfl) ?_
    refine va_get (D := (dC, dI)) (ci := 12) (v := .int (i 84)) (C := R_Model) (T := F_Model) (N := 127) hx hb htt iw_Model hown hK hP 0 yo_12 rfl 84 (Nat.le_of_ble_eq_true rfl) (htt _ lk_Model_428) (fun _ h9 => h9) yg_84 d_Model_definition_107 ?_
    refine lv_iconst (v := 1) hx hb d_Model_definition_110 (by decide) ?_
    refine lv_icmp_ne (tgt := 282) hx hb d_Model_definition_111 (by decide) (fun c_2 => ?_) (fun c_2 => ?_)
    · replace hm := if_f c_2 hm
      refine lv_aload_n hx hb d_Model_definition_282 rfl (lv_at hl 1 rfl) ?_
      refine va_get (D := (dC, dI)) (ci := 12) (v := .int (i 84)) (C := R_Model) (T := F_Model) (N := 127) hx hb htt iw_Model hown hK hP 0 yo_12 rfl 84 (Nat.le_of_ble_eq_true rfl) (htt _ lk_Model_428) (fun _ h9 => h9) yg_84 d_Model_definition_283 ?_
      refine lv_iconst (v := 2) hx hb d_Model_definition_286 (by decide) ?_
      refine lv_icmp_ne (tgt := 321) hx hb d_Model_definition_287 (by decide) (fun c_3 => ?_) (fun c_3 => ?_)
      · replace hm := if_f c_3 hm
        exact lb_Model_definition_321 l dC dI cI cJ cB adK adV adA h v n hx hb hml hown hts hK hE hA hr hlocks _ _ _ _ _ _ _ hm _ _ _ hP hD hS (lv_sub hl [1, 2, 3, 0] rfl)
      · replace hm := if_t c_3 hm
        refine lv_iload_n hx hb d_Model_definition_290 rfl (lv_at hl 3 rfl) ?_
        refine lv_if_eq (tgt := 321) hx hb d_Model_definition_291 (by decide) (fun c_4 => ?_) (fun c_4 => ?_)
        · replace hm := if_t c_4 hm
          exact lb_Model_definition_321 l dC dI cI cJ cB adK adV adA h v n hx hb hml hown hts hK hE hA hr hlocks _ _ _ _ _ _ _ hm _ _ _ hP hD hS (lv_sub hl [1, 2, 3, 0] rfl)
        · replace hm := if_f c_4 hm
          refine lv_aload_n hx hb d_Model_definition_294 rfl (lv_at hl 1 rfl) ?_
          refine va_get (D := (dC, dI)) (ci := 12) (v := .ref ((v 1))) (C := R_Model) (T := F_Model) (N := 127) hx hb htt iw_Model hown hK hP 0 yo_12 rfl 1 (Nat.le_of_ble_eq_true rfl) (htt _ lk_Model_67) (fun _ h9 => h9) yg_1 d_Model_definition_295 ?_
          refine lv_aload_n hx hb d_Model_definition_298 rfl (lv_at hl 1 rfl) ?_
          refine va_get (D := (dC, dI)) (ci := 12) (v := .ref ((v 3))) (C := R_Model) (T := F_Model) (N := 127) hx hb htt iw_Model hown hK hP 0 yo_12 rfl 3 (Nat.le_of_ble_eq_true rfl) (htt _ lk_Model_15) (fun _ h9 => h9) yg_3 d_Model_definition_299 ?_
          refine lv_iload hx hb d_Model_definition_302 (lv_at hl 0 rfl) ?_
          obtain ⟨h_5, hm⟩ := ck_some hm
          refine va_iald hx hb hK hP 3 0 ya_3 rfl h_5 d_Model_definition_304 ?_
          obtain ⟨h_6, hm⟩ := ck_some hm
          refine va_bald hx hb hK hP 1 2 ya_1 rfl h_6 d_Model_definition_305 ?_
          refine lv_bipush (v := 58) hx hb d_Model_definition_306 (by decide) ?_
          refine lv_icmp_ne (tgt := 321) hx hb d_Model_definition_308 (by decide) (fun c_7 => ?_) (fun c_7 => ?_)
          · replace hm := if_f c_7 hm
            exact lb_Model_definition_321 l dC dI cI cJ cB adK adV adA h v n hx hb hml hown hts hK hE hA hr hlocks _ _ _ _ _ _ _ hm _ _ _ hP hD hS (lv_sub hl [1, 2, 3, 0] rfl)
          · replace hm := if_t c_7 hm
            refine lv_aload_n hx hb d_Model_definition_311 rfl (lv_at hl 1 rfl) ?_
            refine lv_iload_n hx hb d_Model_definition_312 rfl (lv_at hl 2 rfl) ?_
            refine lv_iload hx hb d_Model_definition_313 (lv_at hl 0 rfl) ?_
            obtain ⟨i_9, j_10, a_11, b_12, r_13, h_8, hm⟩ := om_some hm
            have hFc := x_free hD hS hA
            refine va_callv (va_runV (As := [.int v1, .int s0]) (rest := []) ⟨hx, hb, hml, hown, hts⟩ (x_Model_input l dC dI cI cJ cB adK adV adA h v H.size n h_8) (cwV 2 hts (tw_GV tw_cons cw_Model_input lk_Model_491 in_Model_input sel_Model_input ini_Model) rfl rfl rfl ⟨rfl, hd_Model_input⟩ ⟨Nat.le_of_ble_eq_true rfl, Nat.le_of_ble_eq_true rfl⟩) (ypV hK hP hD hS hE hFc yo_12 rfl) rfl rfl hl.1 rfl (lv_room (Nat.le_of_ble_eq_true rfl)) d_Model_definition_315 ⟨Nat.le_of_ble_eq_true rfl, Nat.le_of_ble_eq_true rfl⟩) hS (fun q _ h => hFc q h) hFc (fun u9 t9 H locs ht hvm e9 hB hz1 hk1 hS => ?_)
            obtain ⟨hP, hD⟩ := y_aft hB ht hFc
            clear hFc hk1 hz1 hvm hB ht
            refine lv_goto (tgt := 385) hx hb d_Model_definition_318 (by decide) ?_
            obtain ⟨e1i, e1j, e1a, e1b, e3⟩ := re4m hm
            obtain ⟨hP, hD⟩ := y_eq e1i e1j e1a e1b hP hD
            exact W.vret hx hb hr (fun t9 ht hW => ⟨⟨(), rfl, trivial, by rw [ht]; exact hP, hD⟩, hS.F ht⟩) hS.2.2 d_Model_definition_385
    · replace hm := if_t c_2 hm
      refine lv_iload_n hx hb d_Model_definition_114 rfl (lv_at hl 3 rfl) ?_
      refine lv_if_eq (tgt := 127) hx hb d_Model_definition_115 (by decide) (fun c_14 => ?_) (fun c_14 => ?_)
      · replace hm := if_t c_14 hm
        exact lb_Model_definition_127 l dC dI cI cJ cB adK adV adA h v n hx hb hml hown hts hK hE hA hr hlocks _ _ _ _ _ hm _ _ _ hP hD hS (lv_sub hl [1, 2] rfl)
      · replace hm := if_f c_14 hm
        refine lv_aload_n hx hb d_Model_definition_118 rfl (lv_at hl 1 rfl) ?_
        refine lv_iload hx hb d_Model_definition_119 (lv_at hl 0 rfl) ?_
        obtain ⟨i_16, j_17, a_18, b_19, r_20, h_15, hm⟩ := om_some hm
        have hFc := x_free hD hS hA
        refine va_calli (va_runV (As := [.int s0]) (rest := []) ⟨hx, hb, hml, hown, hts⟩ (x_Model_isName l dC dI cI cJ cB adK adV adA h v H.size n h_15) (cwV 1 hts (tw_GV tw_cons cw_Model_isName lk_Model_485 in_Model_isName sel_Model_isName ini_Model) rfl rfl rfl ⟨rfl, hd_Model_isName⟩ ⟨Nat.le_of_ble_eq_true rfl, Nat.le_of_ble_eq_true rfl⟩) (ypV hK hP hD hS hE hFc yo_12 rfl) rfl rfl hl.1 rfl (lv_room (Nat.le_of_ble_eq_true rfl)) d_Model_definition_121 ⟨Nat.le_of_ble_eq_true rfl, Nat.le_of_ble_eq_true rfl⟩) hS (fun q _ h => hFc q h) hFc (fun r9 u9 t9 H locs ht hvm e9 hB hz1 hk1 hS => ?_)
        have e9 : r_20 = r9 := e9
        subst e9
        obtain ⟨hP, hD⟩ := y_aft hB ht hFc
        clear hFc hk1 hz1 hvm hB ht
        refine lv_if_ne (tgt := 140) hx hb d_Model_definition_124 (by decide) (fun c_21 => ?_) (fun c_21 => ?_)
        · replace hm := if_f c_21 hm
          refine lv_aload_n hx hb d_Model_definition_140 rfl (lv_at hl 1 rfl) ?_
          refine lv_iload hx hb d_Model_definition_141 (lv_at hl 0 rfl) ?_
          obtain ⟨r_23, h_22, hm⟩ := ob0_some hm
          have hFc := x_free0 hS hA
          refine va_calli (va_runV (As := [.int s0]) (rest := []) ⟨hx, hb, hml, hown, hts⟩ (x_Model_procedureOf l dC dI cI cJ cB adK adV adA h v H.size n h_22) (cwV 1 hts (tw_GV tw_cons cw_Model_procedureOf lk_Model_488 in_Model_procedureOf sel_Model_procedureOf ini_Model) rfl rfl rfl ⟨rfl, hd_Model_procedureOf⟩ ⟨Nat.le_of_ble_eq_true rfl, Nat.le_of_ble_eq_true rfl⟩) (ypVr hK hP hS hE hFc yo_12 rfl) rfl rfl hl.1 rfl (lv_room (Nat.le_of_ble_eq_true rfl)) d_Model_definition_143 ⟨Nat.le_of_ble_eq_true rfl, Nat.le_of_ble_eq_true rfl⟩) hS (fun q _ h => hFc q h) hFc (fun r9 u9 t9 H locs ht hvm e9 hB hz1 hk1 hS => ?_)
          have e9 : r_23 = r9 := e9
          subst e9
          replace hP := x_keep hP hk1
          clear hFc hk1 hz1 hvm hB ht
          refine lv_iconst (v := -1) hx hb d_Model_definition_146 (by decide) ?_
          refine lv_icmp_ne (tgt := 154) hx hb d_Model_definition_147 (by decide) (fun c_24 => ?_) (fun c_24 => ?_)
          · replace hm := if_f c_24 hm
            refine lv_iconst (v := 0) hx hb d_Model_definition_154 (by decide) ?_
            exact lb_Model_definition_155 l dC dI cI cJ cB adK adV adA h v n hx hb hml hown hts hK hE hA hr hlocks _ _ _ _ _ _ _ hm _ _ _ hP hD hS (lv_sub hl [1, 2, 0] rfl)
          · replace hm := if_t c_24 hm
            refine lv_iconst (v := 1) hx hb d_Model_definition_150 (by decide) ?_
            refine lv_goto (tgt := 155) hx hb d_Model_definition_151 (by decide) ?_
            exact lb_Model_definition_155 l dC dI cI cJ cB adK adV adA h v n hx hb hml hown hts hK hE hA hr hlocks _ _ _ _ _ _ _ hm _ _ _ hP hD hS (lv_sub hl [1, 2, 0] rfl)
        · replace hm := if_t c_21 hm
          exact lb_Model_definition_127 l dC dI cI cJ cB adK adV adA h v n hx hb hml hown hts hK hE hA hr hlocks _ _ _ _ _ hm _ _ _ hP hD hS (lv_sub hl [1, 2] rfl)
  · replace hm := if_t c_1 hm
    refine lv_iload_n hx hb d_Model_definition_61 rfl (lv_at hl 2 rfl) ?_
    refine lv_if_ne (tgt := 70) hx hb d_Model_definition_62 (by decide) (fun c_25 => ?_) (fun c_25 => ?_)
    · replace hm := if_f c_25 hm
      exact lb_Model_definition_70 l dC dI cI cJ cB adK adV adA h v n hx hb hml hown hts hK hE hA hr hlocks _ _ _ _ _ _ _ hm _ _ _ hP hD hS (lv_sub hl [1, 2, 3, 0] rfl)
    · replace hm := if_t c_25 hm
      refine lv_aload_n hx hb d_Model_definition_65 rfl (lv_at hl 1 rfl) ?_
      refine lv_iconst (v := 0) hx hb d_Model_definition_66 (by decide) ?_
      refine va_put (D := (dC, dI)) (ci := 12) (v := .int 0) (ty := .int) (C := R_Model) (T := F_Model) (N := 127) hx hb htt iw_Model t_Model t_Model_ok n_Model hown hK hP hD hS 0 yo_12 rfl 86 (Nat.le_of_ble_eq_true rfl) (htt _ lk_Model_482) (fun _ h9 => h9) rfl (by decide +kernel) rfl rfl yl_86 d_Model_definition_67 (fun H locs hP hD hS => ?_)
      obtain ⟨i_26, ei_26⟩ : ∃ y9 : Nat → Int32, y9 = upd i 86 0 := ⟨_, rfl⟩
      replace hm := ob1_at ei_26 hm
      obtain ⟨hP, hD⟩ := yw_86 ei_26 hP hD
      exact lb_Model_definition_70 l dC dI cI cJ cB adK adV adA h v n hx hb hml hown hts hK hE hA hr hlocks _ _ _ _ _ _ _ hm _ _ _ hP hD hS (lv_sub hl [1, 2, 3, 0] rfl)
def m_Model_definition_b34 (n : Nat) (i : Nat → Int32) (j : Nat → Int64) (a : Nat → Nat → Int32) (b : Nat → Nat → Int64) (v1 : Int32) (s0 : Int32) : Option ((Nat → Int32) × (Nat → Int64) × (Nat → Nat → Int32) × (Nat → Nat → Int64) × Int32) := if s0 = ((0 : Int32)) then m_Model_definition_b52 n i j a b v1 s0 (0 : Int32) else ck v1 601 (ob0 (m_Model_what n (b 80 v1.toNatClampNeg)) (fun r_4 => m_Model_definition_b52 n i j a b v1 s0 r_4))
set_option maxHeartbeats 4000000 in
set_option maxRecDepth 100000 in
theorem lb_Model_definition_34 (l : Launch) (dC : Nat → ClassId) (dI : Nat → Nat → Nat) (cI cJ cB : ClassId) (adK adV adA : Nat → Nat) (h : Nat) (v : Nat → Nat) (n : Nat) {p : Program} {e : Env} {s : State} {m : MethodId} {args : Array Value} {below : List Frame} {meth : Method} {c : Code} {A : Nat → Prop} (hx : p.tables.exec = Jvm.exec) (hb : c.code = b_Model_definition) (hml : c.maxLocals = 7) (hown : s.vm.findClass R_Model = some m.cls) (hts : ∀ w ∈ w_Model_definition, w.before args s = true) (hK : va_K (dC, dI) classes [(cI, .int), (cJ, .long), (cB, .byte)] s) (hE : tw_E adK adV adA A s s.heap) (hA : ∀ q : Nat, s.heap.size ≤ q → A q) (hr : meth.sig.returnType = none) (hlocks : meth.locks = false) {i2 : Nat → Int32} {j2 : Nat → Int64} {a2 : Nat → Nat → Int32} {b2 : Nat → Nat → Int64} {r2 : Int32} (i : Nat → Int32) (j : Nat → Int64) (a : Nat → Nat → Int32) (b : Nat → Nat → Int64) (v1 : Int32) (s0 : Int32) (hm : m_Model_definition_b34 n i j a b v1 s0 = some (i2, j2, a2, b2, r2)) : ∀ (H : Heap) (locs : List Loc) (ls : Array Slot), va_P (dC, dI) classes (MW cI cJ cB h v i j a b) H → va_D A (MW cI cJ cB h v i j a b) → va_S A s.heap H locs → lv_has ls 7 [(0, .ref h), (1, .int v1)] → W p l e ({ frames := 6, cells := 0, slots := 0, locals := 134 } : Room) s m args below meth c H locs 0 0 (MQ below (va_Qv xV (yB dC dI cI cJ cB h v i2 j2 a2 b2 A) A) args s 0 0 A) (F0 m 34 ls [.int s0]) := by
  have htt : ∀ w ∈ tw_T, w.before _ s = true := fun w h => hts w (List.mem_cons_of_mem _ h)
  intro H locs ls hP hD hS hl
  rw [m_Model_definition_b34] at hm
  refine lv_istore_n (lv' := [(3, .int s0), (0, .ref h), (1, .int v1)]) hx hb d_Model_definition_34 rfl hl (by decide) rfl (fun ls hl => ?_)
  refine lv_iload_n hx hb d_Model_definition_35 rfl (lv_at hl 0 rfl) ?_
  refine lv_if_eq (tgt := 51) hx hb d_Model_definition_36 (by decide) (fun c_1 => ?_) (fun c_1 => ?_)
  · replace hm := if_t c_1 hm
    refine lv_iconst (v := 0) hx hb d_Model_definition_51 (by decide) ?_
    exact lb_Model_definition_52 l dC dI cI cJ cB adK adV adA h v n hx hb hml hown hts hK hE hA hr hlocks _ _ _ _ _ _ _ hm _ _ _ hP hD hS (lv_sub hl [1, 2, 0] rfl)
  · replace hm := if_f c_1 hm
    refine lv_aload_n hx hb d_Model_definition_39 rfl (lv_at hl 1 rfl) ?_
    refine va_get (D := (dC, dI)) (ci := 12) (v := .ref ((v 80))) (C := R_Model) (T := F_Model) (N := 127) hx hb htt iw_Model hown hK hP 0 yo_12 rfl 80 (Nat.le_of_ble_eq_true rfl) (htt _ lk_Model_276) (fun _ h9 => h9) yg_80 d_Model_definition_40 ?_
    refine lv_iload_n hx hb d_Model_definition_43 rfl (lv_at hl 2 rfl) ?_
    obtain ⟨h_2, hm⟩ := ck_some hm
    refine va_lald hx hb hK hP 53 1 ya_80 rfl h_2 d_Model_definition_44 ?_
    obtain ⟨r_4, h_3, hm⟩ := ob0_some hm
    have hFc := x_free0 hS hA
    refine va_calli (va_runS (As := [.long (b 80 v1.toNatClampNeg)]) (rest := []) ⟨hx, hb, hml, hown, hts⟩ (x_Model_what l H.size n h_3) (va_cwS 1 hts (tw_GS tw_cons cw_Model_what lk_Model_64 st_Model_what ini_Model) rfl rfl rfl hd_Model_what ⟨Nat.le_of_ble_eq_true rfl, Nat.le_of_ble_eq_true rfl⟩) xpS0 rfl rfl hl.1 rfl (lv_room (Nat.le_of_ble_eq_true rfl)) d_Model_definition_45 ⟨Nat.le_of_ble_eq_true rfl, Nat.le_of_ble_eq_true rfl⟩) hS (fun q _ h => hFc q h) hFc (fun r9 u9 t9 H locs ht hvm e9 hB hz1 hk1 hS => ?_)
    have e9 : r_4 = r9 := e9
    subst e9
    replace hP := x_keep hP hk1
    clear hFc hk1 hz1 hvm hB ht
    refine lv_goto (tgt := 52) hx hb d_Model_definition_48 (by decide) ?_
    exact lb_Model_definition_52 l dC dI cI cJ cB adK adV adA h v n hx hb hml hown hts hK hE hA hr hlocks _ _ _ _ _ _ _ hm _ _ _ hP hD hS (lv_sub hl [1, 2, 0] rfl)
def m_Model_definition_b33 (n : Nat) (i : Nat → Int32) (j : Nat → Int64) (a : Nat → Nat → Int32) (b : Nat → Nat → Int64) (v1 : Int32) : Option ((Nat → Int32) × (Nat → Int64) × (Nat → Nat → Int32) × (Nat → Nat → Int64) × Int32) := m_Model_definition_b34 n i j a b v1 (0 : Int32)
set_option maxHeartbeats 4000000 in
set_option maxRecDepth 100000 in
theorem lb_Model_definition_33 (l : Launch) (dC : Nat → ClassId) (dI : Nat → Nat → Nat) (cI cJ cB : ClassId) (adK adV adA : Nat → Nat) (h : Nat) (v : Nat → Nat) (n : Nat) {p : Program} {e : Env} {s : State} {m : MethodId} {args : Array Value} {below : List Frame} {meth : Method} {c : Code} {A : Nat → Prop} (hx : p.tables.exec = Jvm.exec) (hb : c.code = b_Model_definition) (hml : c.maxLocals = 7) (hown : s.vm.findClass R_Model = some m.cls) (hts : ∀ w ∈ w_Model_definition, w.before args s = true) (hK : va_K (dC, dI) classes [(cI, .int), (cJ, .long), (cB, .byte)] s) (hE : tw_E adK adV adA A s s.heap) (hA : ∀ q : Nat, s.heap.size ≤ q → A q) (hr : meth.sig.returnType = none) (hlocks : meth.locks = false) {i2 : Nat → Int32} {j2 : Nat → Int64} {a2 : Nat → Nat → Int32} {b2 : Nat → Nat → Int64} {r2 : Int32} (i : Nat → Int32) (j : Nat → Int64) (a : Nat → Nat → Int32) (b : Nat → Nat → Int64) (v1 : Int32) (hm : m_Model_definition_b33 n i j a b v1 = some (i2, j2, a2, b2, r2)) : ∀ (H : Heap) (locs : List Loc) (ls : Array Slot), va_P (dC, dI) classes (MW cI cJ cB h v i j a b) H → va_D A (MW cI cJ cB h v i j a b) → va_S A s.heap H locs → lv_has ls 7 [(0, .ref h), (1, .int v1)] → W p l e ({ frames := 6, cells := 0, slots := 0, locals := 134 } : Room) s m args below meth c H locs 0 0 (MQ below (va_Qv xV (yB dC dI cI cJ cB h v i2 j2 a2 b2 A) A) args s 0 0 A) (F0 m 33 ls []) := by
  have htt : ∀ w ∈ tw_T, w.before _ s = true := fun w h => hts w (List.mem_cons_of_mem _ h)
  intro H locs ls hP hD hS hl
  rw [m_Model_definition_b33] at hm
  refine lv_iconst (v := 0) hx hb d_Model_definition_33 (by decide) ?_
  exact lb_Model_definition_34 l dC dI cI cJ cB adK adV adA h v n hx hb hml hown hts hK hE hA hr hlocks _ _ _ _ _ _ hm _ _ _ hP hD hS (lv_sub hl [0, 1] rfl)
def m_Model_definition (n : Nat) (i : Nat → Int32) (j : Nat → Int64) (a : Nat → Nat → Int32) (b : Nat → Nat → Int64) (v1 : Int32) (v2 : Int32) : Option ((Nat → Int32) × (Nat → Int64) × (Nat → Nat → Int32) × (Nat → Nat → Int64) × Int32) := ck v1 601 (ob0 (m_Model_isWord n (b 80 v1.toNatClampNeg)) (fun r_3 => if r_3 = ((0 : Int32)) then m_Model_definition_b33 n i j a b v1 else ck v1 601 (if ((lg_cmp (b 80 v1.toNatClampNeg) 3)) = ((0 : Int32)) then m_Model_definition_b33 n i j a b v1 else if v2 = ((0 : Int32)) then m_Model_definition_b34 n i j a b v1 (1 : Int32) else m_Model_definition_b33 n i j a b v1)))
set_option maxHeartbeats 4000000 in
set_option maxRecDepth 100000 in
theorem x_Model_definition (l : Launch) (dC : Nat → ClassId) (dI : Nat → Nat → Nat) (cI cJ cB : ClassId) (adK adV adA : Nat → Nat) (h : Nat) (v : Nat → Nat) (sz : Nat) (n : Nat) {i : Nat → Int32} {j : Nat → Int64} {a : Nat → Nat → Int32} {b : Nat → Nat → Int64} {v1 : Int32} {v2 : Int32} {i2 : Nat → Int32} {j2 : Nat → Int64} {a2 : Nat → Nat → Int32} {b2 : Nat → Nat → Int64} {r2 : Int32} (hm : m_Model_definition n i j a b v1 v2 = some (i2, j2, a2, b2, r2)) : Met l y_Model_definition w_Model_definition ({ frames := 6, cells := 0, slots := 0, locals := 134 } : Room) (va_Pc [.ref h, .int v1, .int v2] (yE dC dI cI cJ cB adK adV adA h v i j a b sz)) (va_Qv xV (yB dC dI cI cJ cB h v i2 j2 a2 b2 (va_A (MW cI cJ cB h v i j a b) sz)) (va_A (MW cI cJ cB h v i j a b) sz)) 0 0 ((va_A (MW cI cJ cB h v i j a b) sz)) := by
  refine Met.ofW (cc := b_Model_definition) (maxL := 7) (ret := none) (by decide) rfl ?_
  intro p e s m args below meth c s₁ B hml hv
  obtain ⟨rfl, hsz, hP, hK, hE, hD0⟩ := hv
  have hx := B.exec
  have hb := B.bytes
  have hr := B.returns
  have hts := atoms_spec (ws := w_Model_definition) B.pre
  have htt : ∀ w ∈ tw_T, w.before _ s = true := fun w h => hts w (List.mem_cons_of_mem _ h)
  have hown : s.vm.findClass R_Model = some m.cls := findClass_of_methodNamed B.named
  have hlocks := B.notSynchronized
  subst hsz
  have hD := hD0.self (sz := s.heap.size)
  generalize hAe : (va_A (MW cI cJ cB h v i j a b) s.heap.size) = A at hD hE ⊢
  have hA : ∀ q : Nat, s.heap.size ≤ q → A q := fun q h => by rw [← hAe]; exact Or.inr h
  have hS : va_S A s.heap s.heap [] := va_S.rf
  have hl := lv_entry ([.ref h, .int v1, .int v2]) (n := 7) (Nat.le_of_ble_eq_true rfl)
  rw [lg_entry_eq]
  generalize (lg_sl ([.ref h, .int v1, .int v2]) ++ List.replicate (7 - (lg_sl ([.ref h, .int v1, .int v2])).length) Slot.unset).toArray = ls at hl ⊢
  have hl : lv_has ls 7 [(0, .ref h), (1, .int v1), (2, .int v2)] := hl
  rw [m_Model_definition] at hm
  refine lv_aload_n hx hb d_Model_definition_0 rfl (lv_at hl 0 rfl) ?_
  refine va_get (D := (dC, dI)) (ci := 12) (v := .ref ((v 80))) (C := R_Model) (T := F_Model) (N := 127) hx hb htt iw_Model hown hK hP 0 yo_12 rfl 80 (Nat.le_of_ble_eq_true rfl) (htt _ lk_Model_276) (fun _ h9 => h9) yg_80 d_Model_definition_1 ?_
  refine lv_iload_n hx hb d_Model_definition_4 rfl (lv_at hl 1 rfl) ?_
  obtain ⟨h_1, hm⟩ := ck_some hm
  refine va_lald hx hb hK hP 53 1 ya_80 rfl h_1 d_Model_definition_5 ?_
  obtain ⟨r_3, h_2, hm⟩ := ob0_some hm
  have hFc := x_free0 hS hA
  refine va_calli (va_runS (As := [.long (b 80 v1.toNatClampNeg)]) (rest := []) ⟨hx, hb, hml, hown, hts⟩ (x_Model_isWord l s.heap.size n h_2) (va_cwS 1 hts (tw_GS tw_cons cw_Model_isWord lk_Model_61 st_Model_isWord ini_Model) rfl rfl rfl hd_Model_isWord ⟨Nat.le_of_ble_eq_true rfl, Nat.le_of_ble_eq_true rfl⟩) xpS0 rfl rfl hl.1 rfl (lv_room (Nat.le_of_ble_eq_true rfl)) d_Model_definition_6 ⟨Nat.le_of_ble_eq_true rfl, Nat.le_of_ble_eq_true rfl⟩) hS (fun q _ h => hFc q h) hFc (fun r9 u9 t9 H locs ht hvm e9 hB hz1 hk1 hS => ?_)
  have e9 : r_3 = r9 := e9
  subst e9
  replace hP := x_keep hP hk1
  clear hFc hk1 hz1 hvm hB ht
  refine lv_if_eq (tgt := 33) hx hb d_Model_definition_9 (by decide) (fun c_4 => ?_) (fun c_4 => ?_)
  · replace hm := if_t c_4 hm
    exact lb_Model_definition_33 l dC dI cI cJ cB adK adV adA h v n hx hb hml hown hts hK hE hA hr hlocks _ _ _ _ _ hm _ _ _ hP hD hS (lv_sub hl [0, 1] rfl)
  · replace hm := if_f c_4 hm
    refine lv_aload_n hx hb d_Model_definition_12 rfl (lv_at hl 0 rfl) ?_
    refine va_get (D := (dC, dI)) (ci := 12) (v := .ref ((v 80))) (C := R_Model) (T := F_Model) (N := 127) hx hb htt iw_Model hown hK hP 0 yo_12 rfl 80 (Nat.le_of_ble_eq_true rfl) (htt _ lk_Model_276) (fun _ h9 => h9) yg_80 d_Model_definition_13 ?_
    refine lv_iload_n hx hb d_Model_definition_16 rfl (lv_at hl 1 rfl) ?_
    obtain ⟨h_5, hm⟩ := ck_some hm
    refine va_lald hx hb hK hP 53 1 ya_80 rfl h_5 d_Model_definition_17 ?_
    refine lv_ldc2 (v := 3) hx hb hown (htt _ lk_Model_7) d_Model_definition_18 ?_
    refine W.lcmp hx hb d_Model_definition_21 ?_
    refine lv_if_eq (tgt := 33) hx hb d_Model_definition_22 (by decide) (fun c_6 => ?_) (fun c_6 => ?_)
    · replace hm := if_t c_6 hm
      exact lb_Model_definition_33 l dC dI cI cJ cB adK adV adA h v n hx hb hml hown hts hK hE hA hr hlocks _ _ _ _ _ hm _ _ _ hP hD hS (lv_sub hl [0, 1] rfl)
    · replace hm := if_f c_6 hm
      refine lv_iload_n hx hb d_Model_definition_25 rfl (lv_at hl 2 rfl) ?_
      refine lv_if_ne (tgt := 33) hx hb d_Model_definition_26 (by decide) (fun c_7 => ?_) (fun c_7 => ?_)
      · replace hm := if_f c_7 hm
        exact lb_Model_definition_33 l dC dI cI cJ cB adK adV adA h v n hx hb hml hown hts hK hE hA hr hlocks _ _ _ _ _ hm _ _ _ hP hD hS (lv_sub hl [0, 1] rfl)
      · replace hm := if_t c_7 hm
        refine lv_iconst (v := 1) hx hb d_Model_definition_29 (by decide) ?_
        refine lv_goto (tgt := 34) hx hb d_Model_definition_30 (by decide) ?_
        exact lb_Model_definition_34 l dC dI cI cJ cB adK adV adA h v n hx hb hml hown hts hK hE hA hr hlocks _ _ _ _ _ _ hm _ _ _ hP hD hS (lv_sub hl [0, 1] rfl)
