theorem d_Model_holds_0 : decode b_Model_holds 0 = .ok (.iconst 0, 1) := by decide +kernel
theorem d_Model_holds_1 : decode b_Model_holds 1 = .ok (.istore 5, 2) := by decide +kernel
theorem d_Model_holds_3 : decode b_Model_holds 3 = .ok (.iload 5, 2) := by decide +kernel
theorem d_Model_holds_5 : decode b_Model_holds 5 = .ok (.aload_n 0, 1) := by decide +kernel
theorem d_Model_holds_6 : decode b_Model_holds 6 = .ok (.lload_n 1, 1) := by decide +kernel
theorem d_Model_holds_7 : decode b_Model_holds 7 = .ok (.invokevirtual 98, 3) := by decide +kernel
theorem d_Model_holds_10 : decode b_Model_holds 10 = .ok (.if_icmp .ge 26, 3) := by decide +kernel
theorem d_Model_holds_13 : decode b_Model_holds 13 = .ok (.aload_n 0, 1) := by decide +kernel
theorem d_Model_holds_14 : decode b_Model_holds 14 = .ok (.aload_n 0, 1) := by decide +kernel
theorem d_Model_holds_15 : decode b_Model_holds 15 = .ok (.lload_n 1, 1) := by decide +kernel
theorem d_Model_holds_16 : decode b_Model_holds 16 = .ok (.iload 5, 2) := by decide +kernel
theorem d_Model_holds_18 : decode b_Model_holds 18 = .ok (.invokevirtual 101, 3) := by decide +kernel
theorem d_Model_holds_21 : decode b_Model_holds 21 = .ok (.lload_n 3, 1) := by decide +kernel
theorem d_Model_holds_22 : decode b_Model_holds 22 = .ok (.invokevirtual 717, 3) := by decide +kernel
theorem d_Model_holds_25 : decode b_Model_holds 25 = .ok (.ifCond .eq 5, 3) := by decide +kernel
theorem d_Model_holds_28 : decode b_Model_holds 28 = .ok (.iconst 1, 1) := by decide +kernel
theorem d_Model_holds_29 : decode b_Model_holds 29 = .ok (.ireturn, 1) := by decide +kernel
theorem d_Model_holds_30 : decode b_Model_holds 30 = .ok (.iinc 5 1, 3) := by decide +kernel
theorem d_Model_holds_33 : decode b_Model_holds 33 = .ok (.goto (-30), 3) := by decide +kernel
theorem d_Model_holds_36 : decode b_Model_holds 36 = .ok (.iconst 0, 1) := by decide +kernel
theorem d_Model_holds_37 : decode b_Model_holds 37 = .ok (.ireturn, 1) := by decide +kernel
theorem lk_Model_717 : Cond.methodLink "TurtleWorldModel" 717 ⟨"TurtleWorldModel", "equal", "(JJ)Z"⟩ ∈ tw_T := tw_i11 57 (by decide +kernel) (by decide +kernel)
theorem hd_Model_equal : y_Model_equal.cls ≠ "java/lang/invoke/MethodHandle" ∧ y_Model_equal.cls ≠ "java/lang/invoke/VarHandle" ∧ (parseMethodDescriptor y_Model_equal.desc).map (fun d => d.parameters.length) = some 2 := by decide +kernel
theorem in_Model_equal : Cond.instanceMethod ⟨"TurtleWorldModel", "equal", "(JJ)Z"⟩ ∈ tw_T := tw_i11 59 (by decide +kernel) (by decide +kernel)
theorem sel_Model_equal : Cond.selects "TurtleWorldModel" ⟨"TurtleWorldModel", "equal", "(JJ)Z"⟩ ⟨"TurtleWorldModel", "equal", "(JJ)Z"⟩ ∈ tw_T := tw_inS 138 (by decide +kernel) (by decide +kernel)
theorem d_Model_joined_0 : decode b_Model_joined 0 = .ok (.lload_n 1, 1) := by decide +kernel
theorem d_Model_joined_1 : decode b_Model_joined 1 = .ok (.invokestatic 95, 3) := by decide +kernel
theorem d_Model_joined_4 : decode b_Model_joined 4 = .ok (.ifCond .ne 10, 3) := by decide +kernel
theorem d_Model_joined_7 : decode b_Model_joined 7 = .ok (.lload_n 3, 1) := by decide +kernel
theorem d_Model_joined_8 : decode b_Model_joined 8 = .ok (.invokestatic 95, 3) := by decide +kernel
theorem d_Model_joined_11 : decode b_Model_joined 11 = .ok (.ifCond .eq 9, 3) := by decide +kernel
theorem d_Model_joined_14 : decode b_Model_joined 14 = .ok (.aload_n 0, 1) := by decide +kernel
theorem d_Model_joined_15 : decode b_Model_joined 15 = .ok (.iconst 3, 1) := by decide +kernel
theorem d_Model_joined_16 : decode b_Model_joined 16 = .ok (.invokevirtual 596, 3) := by decide +kernel
theorem d_Model_joined_19 : decode b_Model_joined 19 = .ok (.lreturn, 1) := by decide +kernel
theorem d_Model_joined_20 : decode b_Model_joined 20 = .ok (.aload_n 0, 1) := by decide +kernel
theorem d_Model_joined_21 : decode b_Model_joined 21 = .ok (.iconst 0, 1) := by decide +kernel
theorem d_Model_joined_22 : decode b_Model_joined 22 = .ok (.putfield 108, 3) := by decide +kernel
theorem d_Model_joined_25 : decode b_Model_joined 25 = .ok (.aload_n 0, 1) := by decide +kernel
theorem d_Model_joined_26 : decode b_Model_joined 26 = .ok (.lload_n 1, 1) := by decide +kernel
theorem d_Model_joined_27 : decode b_Model_joined 27 = .ok (.invokevirtual 124, 3) := by decide +kernel
theorem d_Model_joined_30 : decode b_Model_joined 30 = .ok (.aload_n 0, 1) := by decide +kernel
theorem d_Model_joined_31 : decode b_Model_joined 31 = .ok (.lload_n 3, 1) := by decide +kernel
theorem d_Model_joined_32 : decode b_Model_joined 32 = .ok (.invokevirtual 124, 3) := by decide +kernel
theorem d_Model_joined_35 : decode b_Model_joined 35 = .ok (.aload_n 0, 1) := by decide +kernel
theorem d_Model_joined_36 : decode b_Model_joined 36 = .ok (.aload_n 0, 1) := by decide +kernel
theorem d_Model_joined_37 : decode b_Model_joined 37 = .ok (.getfield 105, 3) := by decide +kernel
theorem d_Model_joined_40 : decode b_Model_joined 40 = .ok (.iconst 0, 1) := by decide +kernel
theorem d_Model_joined_41 : decode b_Model_joined 41 = .ok (.aload_n 0, 1) := by decide +kernel
theorem d_Model_joined_42 : decode b_Model_joined 42 = .ok (.getfield 108, 3) := by decide +kernel
theorem d_Model_joined_45 : decode b_Model_joined 45 = .ok (.invokevirtual 447, 3) := by decide +kernel
theorem d_Model_joined_48 : decode b_Model_joined 48 = .ok (.istore 5, 2) := by decide +kernel
theorem d_Model_joined_50 : decode b_Model_joined 50 = .ok (.iload 5, 2) := by decide +kernel
theorem d_Model_joined_52 : decode b_Model_joined 52 = .ok (.iconst 2, 1) := by decide +kernel
theorem d_Model_joined_53 : decode b_Model_joined 53 = .ok (.if_icmp .ne 10, 3) := by decide +kernel
theorem d_Model_joined_56 : decode b_Model_joined 56 = .ok (.aload_n 0, 1) := by decide +kernel
theorem d_Model_joined_57 : decode b_Model_joined 57 = .ok (.bipush 9, 2) := by decide +kernel
theorem d_Model_joined_59 : decode b_Model_joined 59 = .ok (.invokevirtual 596, 3) := by decide +kernel
theorem d_Model_joined_62 : decode b_Model_joined 62 = .ok (.lreturn, 1) := by decide +kernel
theorem d_Model_joined_63 : decode b_Model_joined 63 = .ok (.aload_n 0, 1) := by decide +kernel
theorem d_Model_joined_64 : decode b_Model_joined 64 = .ok (.getfield 146, 3) := by decide +kernel
theorem d_Model_joined_67 : decode b_Model_joined 67 = .ok (.istore 6, 2) := by decide +kernel
theorem d_Model_joined_69 : decode b_Model_joined 69 = .ok (.iload 5, 2) := by decide +kernel
theorem d_Model_joined_71 : decode b_Model_joined 71 = .ok (.iconst 1, 1) := by decide +kernel
theorem d_Model_joined_72 : decode b_Model_joined 72 = .ok (.if_icmp .ne 37, 3) := by decide +kernel
theorem d_Model_joined_75 : decode b_Model_joined 75 = .ok (.aload_n 0, 1) := by decide +kernel
theorem d_Model_joined_76 : decode b_Model_joined 76 = .ok (.iconst 0, 1) := by decide +kernel
theorem d_Model_joined_77 : decode b_Model_joined 77 = .ok (.putfield 108, 3) := by decide +kernel
theorem d_Model_joined_80 : decode b_Model_joined 80 = .ok (.aload_n 0, 1) := by decide +kernel
theorem d_Model_joined_81 : decode b_Model_joined 81 = .ok (.iload 6, 2) := by decide +kernel
theorem d_Model_joined_83 : decode b_Model_joined 83 = .ok (.invokevirtual 121, 3) := by decide +kernel
theorem d_Model_joined_86 : decode b_Model_joined 86 = .ok (.aload_n 0, 1) := by decide +kernel
theorem d_Model_joined_87 : decode b_Model_joined 87 = .ok (.aload_n 0, 1) := by decide +kernel
theorem d_Model_joined_88 : decode b_Model_joined 88 = .ok (.getfield 108, 3) := by decide +kernel
theorem d_Model_joined_91 : decode b_Model_joined 91 = .ok (.invokevirtual 665, 3) := by decide +kernel
theorem d_Model_joined_94 : decode b_Model_joined 94 = .ok (.ifCond .eq 11, 3) := by decide +kernel
theorem d_Model_joined_97 : decode b_Model_joined 97 = .ok (.iload 6, 2) := by decide +kernel
theorem d_Model_joined_99 : decode b_Model_joined 99 = .ok (.invokestatic 451, 3) := by decide +kernel
theorem d_Model_joined_102 : decode b_Model_joined 102 = .ok (.goto 6, 3) := by decide +kernel
theorem d_Model_joined_105 : decode b_Model_joined 105 = .ok (.ldc2_w 7, 3) := by decide +kernel
theorem d_Model_joined_108 : decode b_Model_joined 108 = .ok (.lreturn, 1) := by decide +kernel
theorem d_Model_joined_109 : decode b_Model_joined 109 = .ok (.aload_n 0, 1) := by decide +kernel
theorem d_Model_joined_110 : decode b_Model_joined 110 = .ok (.getfield 108, 3) := by decide +kernel
theorem d_Model_joined_113 : decode b_Model_joined 113 = .ok (.bipush 30, 2) := by decide +kernel
theorem d_Model_joined_115 : decode b_Model_joined 115 = .ok (.if_icmp .le 10, 3) := by decide +kernel
theorem d_Model_joined_118 : decode b_Model_joined 118 = .ok (.aload_n 0, 1) := by decide +kernel
theorem d_Model_joined_119 : decode b_Model_joined 119 = .ok (.bipush 8, 2) := by decide +kernel
theorem d_Model_joined_121 : decode b_Model_joined 121 = .ok (.invokevirtual 596, 3) := by decide +kernel
theorem d_Model_joined_124 : decode b_Model_joined 124 = .ok (.lreturn, 1) := by decide +kernel
theorem d_Model_joined_125 : decode b_Model_joined 125 = .ok (.aload_n 0, 1) := by decide +kernel
theorem d_Model_joined_126 : decode b_Model_joined 126 = .ok (.aload_n 0, 1) := by decide +kernel
theorem d_Model_joined_127 : decode b_Model_joined 127 = .ok (.getfield 108, 3) := by decide +kernel
theorem d_Model_joined_130 : decode b_Model_joined 130 = .ok (.invokevirtual 665, 3) := by decide +kernel
theorem d_Model_joined_133 : decode b_Model_joined 133 = .ok (.ifCond .ne 7, 3) := by decide +kernel
theorem d_Model_joined_136 : decode b_Model_joined 136 = .ok (.ldc2_w 7, 3) := by decide +kernel
theorem d_Model_joined_139 : decode b_Model_joined 139 = .ok (.lreturn, 1) := by decide +kernel
theorem d_Model_joined_140 : decode b_Model_joined 140 = .ok (.aload_n 0, 1) := by decide +kernel
theorem d_Model_joined_141 : decode b_Model_joined 141 = .ok (.getfield 105, 3) := by decide +kernel
theorem d_Model_joined_144 : decode b_Model_joined 144 = .ok (.iconst 0, 1) := by decide +kernel
theorem d_Model_joined_145 : decode b_Model_joined 145 = .ok (.aload_n 0, 1) := by decide +kernel
theorem d_Model_joined_146 : decode b_Model_joined 146 = .ok (.getfield 67, 3) := by decide +kernel
theorem d_Model_joined_149 : decode b_Model_joined 149 = .ok (.aload_n 0, 1) := by decide +kernel
theorem d_Model_joined_150 : decode b_Model_joined 150 = .ok (.getfield 372, 3) := by decide +kernel
theorem d_Model_joined_153 : decode b_Model_joined 153 = .ok (.aload_n 0, 1) := by decide +kernel
theorem d_Model_joined_154 : decode b_Model_joined 154 = .ok (.getfield 108, 3) := by decide +kernel
theorem d_Model_joined_157 : decode b_Model_joined 157 = .ok (.invokestatic 334, 3) := by decide +kernel
theorem d_Model_joined_160 : decode b_Model_joined 160 = .ok (.aload_n 0, 1) := by decide +kernel
theorem d_Model_joined_161 : decode b_Model_joined 161 = .ok (.aload_n 0, 1) := by decide +kernel
theorem d_Model_joined_162 : decode b_Model_joined 162 = .ok (.getfield 372, 3) := by decide +kernel
theorem d_Model_joined_165 : decode b_Model_joined 165 = .ok (.aload_n 0, 1) := by decide +kernel
theorem d_Model_joined_166 : decode b_Model_joined 166 = .ok (.getfield 108, 3) := by decide +kernel
theorem d_Model_joined_169 : decode b_Model_joined 169 = .ok (.invokevirtual 454, 3) := by decide +kernel
theorem d_Model_joined_172 : decode b_Model_joined 172 = .ok (.invokestatic 396, 3) := by decide +kernel
theorem d_Model_joined_175 : decode b_Model_joined 175 = .ok (.lstore 7, 2) := by decide +kernel
theorem d_Model_joined_177 : decode b_Model_joined 177 = .ok (.aload_n 0, 1) := by decide +kernel
theorem d_Model_joined_178 : decode b_Model_joined 178 = .ok (.dup, 1) := by decide +kernel
theorem d_Model_joined_179 : decode b_Model_joined 179 = .ok (.getfield 372, 3) := by decide +kernel
theorem d_Model_joined_182 : decode b_Model_joined 182 = .ok (.aload_n 0, 1) := by decide +kernel
theorem d_Model_joined_183 : decode b_Model_joined 183 = .ok (.getfield 108, 3) := by decide +kernel
theorem d_Model_joined_186 : decode b_Model_joined 186 = .ok (.iadd, 1) := by decide +kernel
theorem d_Model_joined_187 : decode b_Model_joined 187 = .ok (.putfield 372, 3) := by decide +kernel
theorem d_Model_joined_190 : decode b_Model_joined 190 = .ok (.lload 7, 2) := by decide +kernel
theorem d_Model_joined_192 : decode b_Model_joined 192 = .ok (.lreturn, 1) := by decide +kernel
theorem lk_Model_124 : Cond.methodLink "TurtleWorldModel" 124 ⟨"TurtleWorldModel", "sayFlat", "(J)V"⟩ ∈ tw_T := tw_i11 87 (by decide +kernel) (by decide +kernel)
theorem hd_Model_sayFlat : y_Model_sayFlat.cls ≠ "java/lang/invoke/MethodHandle" ∧ y_Model_sayFlat.cls ≠ "java/lang/invoke/VarHandle" ∧ (parseMethodDescriptor y_Model_sayFlat.desc).map (fun d => d.parameters.length) = some 1 := by decide +kernel
theorem in_Model_sayFlat : Cond.instanceMethod ⟨"TurtleWorldModel", "sayFlat", "(J)V"⟩ ∈ tw_T := tw_i11 89 (by decide +kernel) (by decide +kernel)
theorem sel_Model_sayFlat : Cond.selects "TurtleWorldModel" ⟨"TurtleWorldModel", "sayFlat", "(J)V"⟩ ⟨"TurtleWorldModel", "sayFlat", "(J)V"⟩ ∈ tw_T := tw_inS 145 (by decide +kernel) (by decide +kernel)
theorem lk_Model_665 : Cond.methodLink "TurtleWorldModel" 665 ⟨"TurtleWorldModel", "makes", "(I)Z"⟩ ∈ tw_T := tw_i11 102 (by decide +kernel) (by decide +kernel)
theorem hd_Model_makes : y_Model_makes.cls ≠ "java/lang/invoke/MethodHandle" ∧ y_Model_makes.cls ≠ "java/lang/invoke/VarHandle" ∧ (parseMethodDescriptor y_Model_makes.desc).map (fun d => d.parameters.length) = some 1 := by decide +kernel
theorem in_Model_makes : Cond.instanceMethod ⟨"TurtleWorldModel", "makes", "(I)Z"⟩ ∈ tw_T := tw_i11 104 (by decide +kernel) (by decide +kernel)
theorem sel_Model_makes : Cond.selects "TurtleWorldModel" ⟨"TurtleWorldModel", "makes", "(I)Z"⟩ ⟨"TurtleWorldModel", "makes", "(I)Z"⟩ ∈ tw_T := tw_inS 148 (by decide +kernel) (by decide +kernel)
theorem d_Model_make_0 : decode b_Model_make 0 = .ok (.lload_n 1, 1) := by decide +kernel
theorem d_Model_make_1 : decode b_Model_make 1 = .ok (.invokestatic 64, 3) := by decide +kernel
theorem d_Model_make_4 : decode b_Model_make 4 = .ok (.istore 5, 2) := by decide +kernel
theorem d_Model_make_6 : decode b_Model_make 6 = .ok (.aload_n 0, 1) := by decide +kernel
theorem d_Model_make_7 : decode b_Model_make 7 = .ok (.aload_n 0, 1) := by decide +kernel
theorem d_Model_make_8 : decode b_Model_make 8 = .ok (.getfield 15, 3) := by decide +kernel
theorem d_Model_make_11 : decode b_Model_make 11 = .ok (.iload 5, 2) := by decide +kernel
theorem d_Model_make_13 : decode b_Model_make 13 = .ok (.iaload, 1) := by decide +kernel
theorem d_Model_make_14 : decode b_Model_make 14 = .ok (.aload_n 0, 1) := by decide +kernel
theorem d_Model_make_15 : decode b_Model_make 15 = .ok (.getfield 22, 3) := by decide +kernel
theorem d_Model_make_18 : decode b_Model_make 18 = .ok (.iload 5, 2) := by decide +kernel
theorem d_Model_make_20 : decode b_Model_make 20 = .ok (.iaload, 1) := by decide +kernel
theorem d_Model_make_21 : decode b_Model_make 21 = .ok (.invokevirtual 639, 3) := by decide +kernel
theorem d_Model_make_24 : decode b_Model_make 24 = .ok (.istore 6, 2) := by decide +kernel
theorem d_Model_make_26 : decode b_Model_make 26 = .ok (.iload 6, 2) := by decide +kernel
theorem d_Model_make_28 : decode b_Model_make 28 = .ok (.iconst (-1), 1) := by decide +kernel
theorem d_Model_make_29 : decode b_Model_make 29 = .ok (.if_icmp .eq 23, 3) := by decide +kernel
theorem d_Model_make_32 : decode b_Model_make 32 = .ok (.iload 6, 2) := by decide +kernel
theorem d_Model_make_34 : decode b_Model_make 34 = .ok (.sipush 10000, 3) := by decide +kernel
theorem d_Model_make_37 : decode b_Model_make 37 = .ok (.if_icmp .ge 15, 3) := by decide +kernel
theorem d_Model_make_40 : decode b_Model_make 40 = .ok (.aload_n 0, 1) := by decide +kernel
theorem d_Model_make_41 : decode b_Model_make 41 = .ok (.getfield 313, 3) := by decide +kernel
theorem d_Model_make_44 : decode b_Model_make 44 = .ok (.iload 6, 2) := by decide +kernel
theorem d_Model_make_46 : decode b_Model_make 46 = .ok (.lload_n 3, 1) := by decide +kernel
theorem d_Model_make_47 : decode b_Model_make 47 = .ok (.lastore, 1) := by decide +kernel
theorem d_Model_make_48 : decode b_Model_make 48 = .ok (.ldc2_w 7, 3) := by decide +kernel
theorem d_Model_make_51 : decode b_Model_make 51 = .ok (.lreturn, 1) := by decide +kernel
theorem d_Model_make_52 : decode b_Model_make 52 = .ok (.iload 6, 2) := by decide +kernel
theorem d_Model_make_54 : decode b_Model_make 54 = .ok (.iconst (-1), 1) := by decide +kernel
theorem d_Model_make_55 : decode b_Model_make 55 = .ok (.if_icmp .ne 12, 3) := by decide +kernel
theorem d_Model_make_58 : decode b_Model_make 58 = .ok (.aload_n 0, 1) := by decide +kernel
theorem d_Model_make_59 : decode b_Model_make 59 = .ok (.getfield 350, 3) := by decide +kernel
theorem d_Model_make_62 : decode b_Model_make 62 = .ok (.bipush 64, 2) := by decide +kernel
theorem d_Model_make_64 : decode b_Model_make 64 = .ok (.if_icmp .eq 14, 3) := by decide +kernel
theorem d_Model_make_67 : decode b_Model_make 67 = .ok (.aload_n 0, 1) := by decide +kernel
theorem d_Model_make_68 : decode b_Model_make 68 = .ok (.lload_n 3, 1) := by decide +kernel
theorem d_Model_make_69 : decode b_Model_make 69 = .ok (.invokevirtual 38, 3) := by decide +kernel
theorem d_Model_make_72 : decode b_Model_make 72 = .ok (.sipush 300, 3) := by decide +kernel
theorem d_Model_make_75 : decode b_Model_make 75 = .ok (.if_icmp .le 10, 3) := by decide +kernel
theorem d_Model_make_78 : decode b_Model_make 78 = .ok (.aload_n 0, 1) := by decide +kernel
theorem d_Model_make_79 : decode b_Model_make 79 = .ok (.bipush 8, 2) := by decide +kernel
theorem d_Model_make_81 : decode b_Model_make 81 = .ok (.invokevirtual 596, 3) := by decide +kernel
theorem d_Model_make_84 : decode b_Model_make 84 = .ok (.lreturn, 1) := by decide +kernel
theorem d_Model_make_85 : decode b_Model_make 85 = .ok (.iload 6, 2) := by decide +kernel
theorem d_Model_make_87 : decode b_Model_make 87 = .ok (.iconst (-1), 1) := by decide +kernel
theorem d_Model_make_88 : decode b_Model_make 88 = .ok (.if_icmp .ne 10, 3) := by decide +kernel
theorem d_Model_make_91 : decode b_Model_make 91 = .ok (.aload_n 0, 1) := by decide +kernel
theorem d_Model_make_92 : decode b_Model_make 92 = .ok (.getfield 350, 3) := by decide +kernel
theorem d_Model_make_95 : decode b_Model_make 95 = .ok (.goto 9, 3) := by decide +kernel
theorem d_Model_make_98 : decode b_Model_make 98 = .ok (.iload 6, 2) := by decide +kernel
theorem d_Model_make_100 : decode b_Model_make 100 = .ok (.sipush 10000, 3) := by decide +kernel
theorem d_Model_make_103 : decode b_Model_make 103 = .ok (.isub, 1) := by decide +kernel
theorem d_Model_make_104 : decode b_Model_make 104 = .ok (.istore 7, 2) := by decide +kernel
theorem d_Model_make_106 : decode b_Model_make 106 = .ok (.iload 6, 2) := by decide +kernel
theorem d_Model_make_108 : decode b_Model_make 108 = .ok (.iconst (-1), 1) := by decide +kernel
theorem d_Model_make_109 : decode b_Model_make 109 = .ok (.if_icmp .ne 22, 3) := by decide +kernel
theorem d_Model_make_112 : decode b_Model_make 112 = .ok (.aload_n 0, 1) := by decide +kernel
theorem d_Model_make_113 : decode b_Model_make 113 = .ok (.getfield 195, 3) := by decide +kernel
theorem d_Model_make_116 : decode b_Model_make 116 = .ok (.iload 7, 2) := by decide +kernel
theorem d_Model_make_118 : decode b_Model_make 118 = .ok (.iload 5, 2) := by decide +kernel
theorem d_Model_make_120 : decode b_Model_make 120 = .ok (.iastore, 1) := by decide +kernel
theorem d_Model_make_121 : decode b_Model_make 121 = .ok (.aload_n 0, 1) := by decide +kernel
theorem d_Model_make_122 : decode b_Model_make 122 = .ok (.dup, 1) := by decide +kernel
theorem d_Model_make_123 : decode b_Model_make 123 = .ok (.getfield 350, 3) := by decide +kernel
theorem d_Model_make_126 : decode b_Model_make 126 = .ok (.iconst 1, 1) := by decide +kernel
theorem d_Model_make_127 : decode b_Model_make 127 = .ok (.iadd, 1) := by decide +kernel
theorem d_Model_make_128 : decode b_Model_make 128 = .ok (.putfield 350, 3) := by decide +kernel
theorem d_Model_make_131 : decode b_Model_make 131 = .ok (.aload_n 0, 1) := by decide +kernel
theorem d_Model_make_132 : decode b_Model_make 132 = .ok (.getfield 198, 3) := by decide +kernel
theorem d_Model_make_135 : decode b_Model_make 135 = .ok (.iload 7, 2) := by decide +kernel
theorem d_Model_make_137 : decode b_Model_make 137 = .ok (.lload_n 3, 1) := by decide +kernel
theorem d_Model_make_138 : decode b_Model_make 138 = .ok (.lastore, 1) := by decide +kernel
theorem d_Model_make_139 : decode b_Model_make 139 = .ok (.ldc2_w 7, 3) := by decide +kernel
theorem d_Model_make_142 : decode b_Model_make 142 = .ok (.lreturn, 1) := by decide +kernel
theorem d_Model_show_0 : decode b_Model_show 0 = .ok (.aload_n 0, 1) := by decide +kernel
theorem d_Model_show_1 : decode b_Model_show 1 = .ok (.iconst 0, 1) := by decide +kernel
theorem d_Model_show_2 : decode b_Model_show 2 = .ok (.putfield 108, 3) := by decide +kernel
theorem d_Model_show_5 : decode b_Model_show 5 = .ok (.lload_n 1, 1) := by decide +kernel
theorem d_Model_show_6 : decode b_Model_show 6 = .ok (.invokestatic 95, 3) := by decide +kernel
theorem d_Model_show_9 : decode b_Model_show 9 = .ok (.ifCond .ne 9, 3) := by decide +kernel
theorem d_Model_show_12 : decode b_Model_show 12 = .ok (.aload_n 0, 1) := by decide +kernel
theorem d_Model_show_13 : decode b_Model_show 13 = .ok (.lload_n 1, 1) := by decide +kernel
theorem d_Model_show_14 : decode b_Model_show 14 = .ok (.invokevirtual 124, 3) := by decide +kernel
theorem d_Model_show_17 : decode b_Model_show 17 = .ok (.return_, 1) := by decide +kernel
theorem d_Model_show_18 : decode b_Model_show 18 = .ok (.iload_n 3, 1) := by decide +kernel
theorem d_Model_show_19 : decode b_Model_show 19 = .ok (.ifCond .ne 9, 3) := by decide +kernel
theorem d_Model_show_22 : decode b_Model_show 22 = .ok (.aload_n 0, 1) := by decide +kernel
theorem d_Model_show_23 : decode b_Model_show 23 = .ok (.bipush 91, 2) := by decide +kernel
theorem d_Model_show_25 : decode b_Model_show 25 = .ok (.invokevirtual 111, 3) := by decide +kernel
theorem d_Model_show_28 : decode b_Model_show 28 = .ok (.iconst 1, 1) := by decide +kernel
theorem d_Model_show_29 : decode b_Model_show 29 = .ok (.istore 4, 2) := by decide +kernel
theorem d_Model_show_31 : decode b_Model_show 31 = .ok (.aload_n 0, 1) := by decide +kernel
theorem d_Model_show_32 : decode b_Model_show 32 = .ok (.getfield 128, 3) := by decide +kernel
theorem d_Model_show_35 : decode b_Model_show 35 = .ok (.iconst 0, 1) := by decide +kernel
theorem d_Model_show_36 : decode b_Model_show 36 = .ok (.lload_n 1, 1) := by decide +kernel
theorem d_Model_show_37 : decode b_Model_show 37 = .ok (.invokestatic 64, 3) := by decide +kernel
theorem d_Model_show_40 : decode b_Model_show 40 = .ok (.iastore, 1) := by decide +kernel
theorem d_Model_show_41 : decode b_Model_show 41 = .ok (.aload_n 0, 1) := by decide +kernel
theorem d_Model_show_42 : decode b_Model_show 42 = .ok (.getfield 131, 3) := by decide +kernel
theorem d_Model_show_45 : decode b_Model_show 45 = .ok (.iconst 0, 1) := by decide +kernel
theorem d_Model_show_46 : decode b_Model_show 46 = .ok (.iconst 0, 1) := by decide +kernel
theorem d_Model_show_47 : decode b_Model_show 47 = .ok (.iastore, 1) := by decide +kernel
theorem d_Model_show_48 : decode b_Model_show 48 = .ok (.iload 4, 2) := by decide +kernel
theorem d_Model_show_50 : decode b_Model_show 50 = .ok (.ifCond .le 148, 3) := by decide +kernel
theorem d_Model_show_53 : decode b_Model_show 53 = .ok (.aload_n 0, 1) := by decide +kernel
theorem d_Model_show_54 : decode b_Model_show 54 = .ok (.getfield 128, 3) := by decide +kernel
theorem d_Model_show_57 : decode b_Model_show 57 = .ok (.iload 4, 2) := by decide +kernel
theorem d_Model_show_59 : decode b_Model_show 59 = .ok (.iconst 1, 1) := by decide +kernel
theorem d_Model_show_60 : decode b_Model_show 60 = .ok (.isub, 1) := by decide +kernel
theorem d_Model_show_61 : decode b_Model_show 61 = .ok (.iaload, 1) := by decide +kernel
theorem d_Model_show_62 : decode b_Model_show 62 = .ok (.istore 5, 2) := by decide +kernel
theorem d_Model_show_64 : decode b_Model_show 64 = .ok (.aload_n 0, 1) := by decide +kernel
theorem d_Model_show_65 : decode b_Model_show 65 = .ok (.getfield 131, 3) := by decide +kernel
theorem d_Model_show_68 : decode b_Model_show 68 = .ok (.iload 4, 2) := by decide +kernel
theorem d_Model_show_70 : decode b_Model_show 70 = .ok (.iconst 1, 1) := by decide +kernel
theorem d_Model_show_71 : decode b_Model_show 71 = .ok (.isub, 1) := by decide +kernel
theorem d_Model_show_72 : decode b_Model_show 72 = .ok (.iaload, 1) := by decide +kernel
theorem d_Model_show_73 : decode b_Model_show 73 = .ok (.istore 6, 2) := by decide +kernel
theorem d_Model_show_75 : decode b_Model_show 75 = .ok (.iload 6, 2) := by decide +kernel
theorem d_Model_show_77 : decode b_Model_show 77 = .ok (.aload_n 0, 1) := by decide +kernel
theorem d_Model_show_78 : decode b_Model_show 78 = .ok (.getfield 47, 3) := by decide +kernel
theorem d_Model_show_81 : decode b_Model_show 81 = .ok (.iload 5, 2) := by decide +kernel
theorem d_Model_show_83 : decode b_Model_show 83 = .ok (.iaload, 1) := by decide +kernel
theorem d_Model_show_84 : decode b_Model_show 84 = .ok (.if_icmp .ne 24, 3) := by decide +kernel
theorem d_Model_show_87 : decode b_Model_show 87 = .ok (.iinc 4 (-1), 3) := by decide +kernel
theorem d_Model_show_90 : decode b_Model_show 90 = .ok (.iload 4, 2) := by decide +kernel
theorem d_Model_show_92 : decode b_Model_show 92 = .ok (.ifCond .gt 7, 3) := by decide +kernel
theorem d_Model_show_95 : decode b_Model_show 95 = .ok (.iload_n 3, 1) := by decide +kernel
theorem d_Model_show_96 : decode b_Model_show 96 = .ok (.ifCond .ne (-48), 3) := by decide +kernel
theorem d_Model_show_99 : decode b_Model_show 99 = .ok (.aload_n 0, 1) := by decide +kernel
theorem d_Model_show_100 : decode b_Model_show 100 = .ok (.bipush 93, 2) := by decide +kernel
theorem d_Model_show_102 : decode b_Model_show 102 = .ok (.invokevirtual 111, 3) := by decide +kernel
theorem d_Model_show_105 : decode b_Model_show 105 = .ok (.goto (-57), 3) := by decide +kernel
theorem d_Model_show_108 : decode b_Model_show 108 = .ok (.iload 6, 2) := by decide +kernel
theorem d_Model_show_110 : decode b_Model_show 110 = .ok (.ifCond .le 9, 3) := by decide +kernel
theorem d_Model_show_113 : decode b_Model_show 113 = .ok (.aload_n 0, 1) := by decide +kernel
theorem d_Model_show_114 : decode b_Model_show 114 = .ok (.bipush 32, 2) := by decide +kernel
theorem d_Model_show_116 : decode b_Model_show 116 = .ok (.invokevirtual 111, 3) := by decide +kernel
theorem d_Model_show_119 : decode b_Model_show 119 = .ok (.aload_n 0, 1) := by decide +kernel
theorem d_Model_show_120 : decode b_Model_show 120 = .ok (.getfield 131, 3) := by decide +kernel
theorem d_Model_show_123 : decode b_Model_show 123 = .ok (.iload 4, 2) := by decide +kernel
theorem d_Model_show_125 : decode b_Model_show 125 = .ok (.iconst 1, 1) := by decide +kernel
theorem d_Model_show_126 : decode b_Model_show 126 = .ok (.isub, 1) := by decide +kernel
theorem d_Model_show_127 : decode b_Model_show 127 = .ok (.dup2, 1) := by decide +kernel
theorem d_Model_show_128 : decode b_Model_show 128 = .ok (.iaload, 1) := by decide +kernel
theorem d_Model_show_129 : decode b_Model_show 129 = .ok (.iconst 1, 1) := by decide +kernel
theorem d_Model_show_130 : decode b_Model_show 130 = .ok (.iadd, 1) := by decide +kernel
theorem d_Model_show_131 : decode b_Model_show 131 = .ok (.iastore, 1) := by decide +kernel
theorem d_Model_show_132 : decode b_Model_show 132 = .ok (.aload_n 0, 1) := by decide +kernel
theorem d_Model_show_133 : decode b_Model_show 133 = .ok (.getfield 35, 3) := by decide +kernel
theorem d_Model_show_136 : decode b_Model_show 136 = .ok (.aload_n 0, 1) := by decide +kernel
theorem d_Model_show_137 : decode b_Model_show 137 = .ok (.getfield 41, 3) := by decide +kernel
theorem d_Model_show_140 : decode b_Model_show 140 = .ok (.iload 5, 2) := by decide +kernel
theorem d_Model_show_142 : decode b_Model_show 142 = .ok (.iaload, 1) := by decide +kernel
theorem d_Model_show_143 : decode b_Model_show 143 = .ok (.iload 6, 2) := by decide +kernel
theorem d_Model_show_145 : decode b_Model_show 145 = .ok (.iadd, 1) := by decide +kernel
theorem d_Model_show_146 : decode b_Model_show 146 = .ok (.laload, 1) := by decide +kernel
theorem d_Model_show_147 : decode b_Model_show 147 = .ok (.lstore 7, 2) := by decide +kernel
theorem d_Model_show_149 : decode b_Model_show 149 = .ok (.lload 7, 2) := by decide +kernel
theorem d_Model_show_151 : decode b_Model_show 151 = .ok (.invokestatic 95, 3) := by decide +kernel
theorem d_Model_show_154 : decode b_Model_show 154 = .ok (.ifCond .eq 35, 3) := by decide +kernel
theorem d_Model_show_157 : decode b_Model_show 157 = .ok (.aload_n 0, 1) := by decide +kernel
theorem d_Model_show_158 : decode b_Model_show 158 = .ok (.bipush 91, 2) := by decide +kernel
theorem d_Model_show_160 : decode b_Model_show 160 = .ok (.invokevirtual 111, 3) := by decide +kernel
theorem d_Model_show_163 : decode b_Model_show 163 = .ok (.aload_n 0, 1) := by decide +kernel
theorem d_Model_show_164 : decode b_Model_show 164 = .ok (.getfield 128, 3) := by decide +kernel
theorem d_Model_show_167 : decode b_Model_show 167 = .ok (.iload 4, 2) := by decide +kernel
theorem d_Model_show_169 : decode b_Model_show 169 = .ok (.lload 7, 2) := by decide +kernel
theorem d_Model_show_171 : decode b_Model_show 171 = .ok (.invokestatic 64, 3) := by decide +kernel
theorem d_Model_show_174 : decode b_Model_show 174 = .ok (.iastore, 1) := by decide +kernel
theorem d_Model_show_175 : decode b_Model_show 175 = .ok (.aload_n 0, 1) := by decide +kernel
theorem d_Model_show_176 : decode b_Model_show 176 = .ok (.getfield 131, 3) := by decide +kernel
theorem d_Model_show_179 : decode b_Model_show 179 = .ok (.iload 4, 2) := by decide +kernel
theorem d_Model_show_181 : decode b_Model_show 181 = .ok (.iconst 0, 1) := by decide +kernel
theorem d_Model_show_182 : decode b_Model_show 182 = .ok (.iastore, 1) := by decide +kernel
theorem d_Model_show_183 : decode b_Model_show 183 = .ok (.iinc 4 1, 3) := by decide +kernel
theorem d_Model_show_186 : decode b_Model_show 186 = .ok (.goto 9, 3) := by decide +kernel
theorem d_Model_show_189 : decode b_Model_show 189 = .ok (.aload_n 0, 1) := by decide +kernel
theorem d_Model_show_190 : decode b_Model_show 190 = .ok (.lload 7, 2) := by decide +kernel
theorem d_Model_show_192 : decode b_Model_show 192 = .ok (.invokevirtual 124, 3) := by decide +kernel
theorem d_Model_show_195 : decode b_Model_show 195 = .ok (.goto (-147), 3) := by decide +kernel
theorem d_Model_show_198 : decode b_Model_show 198 = .ok (.return_, 1) := by decide +kernel
theorem d_Model_binary_0 : decode b_Model_binary 0 = .ok (.iload_n 1, 1) := by decide +kernel
theorem d_Model_binary_1 : decode b_Model_binary 1 = .ok (.bipush 61, 2) := by decide +kernel
theorem d_Model_binary_3 : decode b_Model_binary 3 = .ok (.if_icmp .ne 15, 3) := by decide +kernel
theorem d_Model_binary_6 : decode b_Model_binary 6 = .ok (.aload_n 0, 1) := by decide +kernel
theorem d_Model_binary_7 : decode b_Model_binary 7 = .ok (.aload_n 0, 1) := by decide +kernel
theorem d_Model_binary_8 : decode b_Model_binary 8 = .ok (.lload_n 2, 1) := by decide +kernel
theorem d_Model_binary_9 : decode b_Model_binary 9 = .ok (.lload 4, 2) := by decide +kernel
theorem d_Model_binary_11 : decode b_Model_binary 11 = .ok (.invokevirtual 717, 3) := by decide +kernel
theorem d_Model_binary_14 : decode b_Model_binary 14 = .ok (.invokevirtual 721, 3) := by decide +kernel
theorem d_Model_binary_17 : decode b_Model_binary 17 = .ok (.lreturn, 1) := by decide +kernel
theorem d_Model_binary_18 : decode b_Model_binary 18 = .ok (.lload_n 2, 1) := by decide +kernel
theorem d_Model_binary_19 : decode b_Model_binary 19 = .ok (.invokestatic 57, 3) := by decide +kernel
theorem d_Model_binary_22 : decode b_Model_binary 22 = .ok (.ifCond .eq 11, 3) := by decide +kernel
theorem d_Model_binary_25 : decode b_Model_binary 25 = .ok (.lload 4, 2) := by decide +kernel
theorem d_Model_binary_27 : decode b_Model_binary 27 = .ok (.invokestatic 57, 3) := by decide +kernel
theorem d_Model_binary_30 : decode b_Model_binary 30 = .ok (.ifCond .ne 9, 3) := by decide +kernel
theorem d_Model_binary_33 : decode b_Model_binary 33 = .ok (.aload_n 0, 1) := by decide +kernel
theorem d_Model_binary_34 : decode b_Model_binary 34 = .ok (.iconst 3, 1) := by decide +kernel
theorem d_Model_binary_35 : decode b_Model_binary 35 = .ok (.invokevirtual 596, 3) := by decide +kernel
theorem d_Model_binary_38 : decode b_Model_binary 38 = .ok (.lreturn, 1) := by decide +kernel
theorem d_Model_binary_39 : decode b_Model_binary 39 = .ok (.aload_n 0, 1) := by decide +kernel
theorem d_Model_binary_40 : decode b_Model_binary 40 = .ok (.iload_n 1, 1) := by decide +kernel
theorem d_Model_binary_41 : decode b_Model_binary 41 = .ok (.bipush 60, 2) := by decide +kernel
theorem d_Model_binary_43 : decode b_Model_binary 43 = .ok (.if_icmp .ne 8, 3) := by decide +kernel
theorem d_Model_binary_46 : decode b_Model_binary 46 = .ok (.bipush 25, 2) := by decide +kernel
theorem d_Model_binary_48 : decode b_Model_binary 48 = .ok (.goto 49, 3) := by decide +kernel
theorem d_Model_binary_51 : decode b_Model_binary 51 = .ok (.iload_n 1, 1) := by decide +kernel
theorem d_Model_binary_52 : decode b_Model_binary 52 = .ok (.bipush 62, 2) := by decide +kernel
theorem d_Model_binary_54 : decode b_Model_binary 54 = .ok (.if_icmp .ne 8, 3) := by decide +kernel
theorem d_Model_binary_57 : decode b_Model_binary 57 = .ok (.bipush 26, 2) := by decide +kernel
theorem d_Model_binary_59 : decode b_Model_binary 59 = .ok (.goto 38, 3) := by decide +kernel
theorem d_Model_binary_62 : decode b_Model_binary 62 = .ok (.iload_n 1, 1) := by decide +kernel
theorem d_Model_binary_63 : decode b_Model_binary 63 = .ok (.bipush 43, 2) := by decide +kernel
theorem d_Model_binary_65 : decode b_Model_binary 65 = .ok (.if_icmp .ne 8, 3) := by decide +kernel
theorem d_Model_binary_68 : decode b_Model_binary 68 = .ok (.bipush 19, 2) := by decide +kernel
theorem d_Model_binary_70 : decode b_Model_binary 70 = .ok (.goto 27, 3) := by decide +kernel
theorem d_Model_binary_73 : decode b_Model_binary 73 = .ok (.iload_n 1, 1) := by decide +kernel
theorem d_Model_binary_74 : decode b_Model_binary 74 = .ok (.bipush 45, 2) := by decide +kernel
theorem d_Model_binary_76 : decode b_Model_binary 76 = .ok (.if_icmp .ne 8, 3) := by decide +kernel
theorem d_Model_binary_79 : decode b_Model_binary 79 = .ok (.bipush 20, 2) := by decide +kernel
theorem d_Model_binary_81 : decode b_Model_binary 81 = .ok (.goto 16, 3) := by decide +kernel
theorem d_Model_binary_84 : decode b_Model_binary 84 = .ok (.iload_n 1, 1) := by decide +kernel
theorem d_Model_binary_85 : decode b_Model_binary 85 = .ok (.bipush 42, 2) := by decide +kernel
theorem d_Model_binary_87 : decode b_Model_binary 87 = .ok (.if_icmp .ne 8, 3) := by decide +kernel
theorem d_Model_binary_90 : decode b_Model_binary 90 = .ok (.bipush 21, 2) := by decide +kernel
theorem d_Model_binary_92 : decode b_Model_binary 92 = .ok (.goto 5, 3) := by decide +kernel
theorem d_Model_binary_95 : decode b_Model_binary 95 = .ok (.bipush 22, 2) := by decide +kernel
theorem d_Model_binary_97 : decode b_Model_binary 97 = .ok (.lload_n 2, 1) := by decide +kernel
theorem d_Model_binary_98 : decode b_Model_binary 98 = .ok (.invokestatic 64, 3) := by decide +kernel
theorem d_Model_binary_101 : decode b_Model_binary 101 = .ok (.lload 4, 2) := by decide +kernel
theorem d_Model_binary_103 : decode b_Model_binary 103 = .ok (.invokestatic 64, 3) := by decide +kernel
theorem d_Model_binary_106 : decode b_Model_binary 106 = .ok (.invokevirtual 725, 3) := by decide +kernel
theorem d_Model_binary_109 : decode b_Model_binary 109 = .ok (.lreturn, 1) := by decide +kernel
theorem lk_Model_725 : Cond.methodLink "TurtleWorldModel" 725 ⟨"TurtleWorldModel", "numbers", "(III)J"⟩ ∈ tw_T := tw_i11 69 (by decide +kernel) (by decide +kernel)
theorem hd_Model_numbers : y_Model_numbers.cls ≠ "java/lang/invoke/MethodHandle" ∧ y_Model_numbers.cls ≠ "java/lang/invoke/VarHandle" ∧ (parseMethodDescriptor y_Model_numbers.desc).map (fun d => d.parameters.length) = some 3 := by decide +kernel
theorem in_Model_numbers : Cond.instanceMethod ⟨"TurtleWorldModel", "numbers", "(III)J"⟩ ∈ tw_T := tw_i11 71 (by decide +kernel) (by decide +kernel)
theorem sel_Model_numbers : Cond.selects "TurtleWorldModel" ⟨"TurtleWorldModel", "numbers", "(III)J"⟩ ⟨"TurtleWorldModel", "numbers", "(III)J"⟩ ∈ tw_T := tw_inS 141 (by decide +kernel) (by decide +kernel)
theorem lk_Model_434 : Cond.methodLink "TurtleWorldModel" 434 ⟨"TurtleWorldModel", "isGood", "(I)Z"⟩ ∈ tw_T := tw_i9 237 (by decide +kernel) (by decide +kernel)
theorem hd_Model_isGood : y_Model_isGood.cls ≠ "java/lang/invoke/MethodHandle" ∧ y_Model_isGood.cls ≠ "java/lang/invoke/VarHandle" ∧ (parseMethodDescriptor y_Model_isGood.desc).map (fun d => d.parameters.length) = some 1 := by decide +kernel
theorem st_Model_isGood : Cond.static ⟨"TurtleWorldModel", "isGood", "(I)Z"⟩ ∈ tw_T := tw_i9 238 (by decide +kernel) (by decide +kernel)
theorem lk_Model_458 : Cond.methodLink "TurtleWorldModel" 458 ⟨"TurtleWorldModel", "definition", "(II)V"⟩ ∈ tw_T := tw_i10 41 (by decide +kernel) (by decide +kernel)
theorem hd_Model_definition : y_Model_definition.cls ≠ "java/lang/invoke/MethodHandle" ∧ y_Model_definition.cls ≠ "java/lang/invoke/VarHandle" ∧ (parseMethodDescriptor y_Model_definition.desc).map (fun d => d.parameters.length) = some 2 := by decide +kernel
theorem in_Model_definition : Cond.instanceMethod ⟨"TurtleWorldModel", "definition", "(II)V"⟩ ∈ tw_T := tw_i10 43 (by decide +kernel) (by decide +kernel)
theorem sel_Model_definition : Cond.selects "TurtleWorldModel" ⟨"TurtleWorldModel", "definition", "(II)V"⟩ ⟨"TurtleWorldModel", "definition", "(II)V"⟩ ∈ tw_T := tw_inS 94 (by decide +kernel) (by decide +kernel)
theorem lk_Model_444 : Cond.methodLink "TurtleWorldModel" 444 ⟨"TurtleWorldModel", "isAlone", "(II)Z"⟩ ∈ tw_T := tw_i10 10 (by decide +kernel) (by decide +kernel)
theorem hd_Model_isAlone : y_Model_isAlone.cls ≠ "java/lang/invoke/MethodHandle" ∧ y_Model_isAlone.cls ≠ "java/lang/invoke/VarHandle" ∧ (parseMethodDescriptor y_Model_isAlone.desc).map (fun d => d.parameters.length) = some 2 := by decide +kernel
theorem in_Model_isAlone : Cond.instanceMethod ⟨"TurtleWorldModel", "isAlone", "(II)Z"⟩ ∈ tw_T := tw_i10 12 (by decide +kernel) (by decide +kernel)
theorem sel_Model_isAlone : Cond.selects "TurtleWorldModel" ⟨"TurtleWorldModel", "isAlone", "(II)Z"⟩ ⟨"TurtleWorldModel", "isAlone", "(II)Z"⟩ ∈ tw_T := tw_inS 91 (by decide +kernel) (by decide +kernel)
def m_Model_holds_b3 (n : Nat) : Nat → (Nat → Int32) → (Nat → Int64) → (Nat → Nat → Int32) → (Nat → Nat → Int64) → Int64 → Int64 → Int32 → Option ((Nat → Int32) × (Nat → Int64) × (Nat → Nat → Int32) × (Nat → Nat → Int64) × Int32)
  | 0, _, _, _, _, _, _, _ => none
  | f + 1, i, j, a, b, v1, v3, v5 => ob0 (m_Model_size n i j a b v1) (fun r_2 => if r_2 ≤ v5 then some (i, j, a, b, 0) else ob0 (m_Model_member n i j a b v1 v5) (fun r_5 => om (m_Model_equal n i j a b r_5 v3) (fun i_7 j_8 a_9 b_10 r_11 => if r_11 = ((0 : Int32)) then ob1 (v5 + 1 : Int32) (fun x_13 => m_Model_holds_b3 n f i_7 j_8 a_9 b_10 v1 v3 x_13) else some (i_7, j_8, a_9, b_10, 1))))
set_option maxHeartbeats 4000000 in
set_option maxRecDepth 100000 in
theorem lb_Model_holds_3 (l : Launch) (dC : Nat → ClassId) (dI : Nat → Nat → Nat) (cI cJ cB : ClassId) (adK adV adA : Nat → Nat) (h : Nat) (v : Nat → Nat) (n : Nat) {p : Program} {e : Env} {s : State} {m : MethodId} {args : Array Value} {below : List Frame} {meth : Method} {c : Code} {A : Nat → Prop} (hx : p.tables.exec = Jvm.exec) (hb : c.code = b_Model_holds) (hml : c.maxLocals = 6) (hown : s.vm.findClass R_Model = some m.cls) (hts : ∀ w ∈ w_Model_holds, w.before args s = true) (hK : va_K (dC, dI) classes [(cI, .int), (cJ, .long), (cB, .byte)] s) (hE : tw_E adK adV adA A s s.heap) (hA : ∀ q : Nat, s.heap.size ≤ q → A q) (hr : meth.sig.returnType = (some .boolean)) (hlocks : meth.locks = false) {i2 : Nat → Int32} {j2 : Nat → Int64} {a2 : Nat → Nat → Int32} {b2 : Nat → Nat → Int64} {r2 : Int32} : ∀ (f : Nat) (i : Nat → Int32) (j : Nat → Int64) (a : Nat → Nat → Int32) (b : Nat → Nat → Int64) (v1 : Int64) (v3 : Int64) (v5 : Int32), m_Model_holds_b3 n f i j a b v1 v3 v5 = some (i2, j2, a2, b2, r2) → ∀ (H : Heap) (locs : List Loc) (ls : Array Slot), va_P (dC, dI) classes (MW cI cJ cB h v i j a b) H → va_D A (MW cI cJ cB h v i j a b) → va_S A s.heap H locs → lv_has ls 6 [(0, .ref h), (1, .long v1), (3, .long v3), (5, .int v5)] → W p l e ({ frames := 3, cells := 0, slots := 0, locals := 77 } : Room) s m args below meth c H locs 0 0 (MQ below (va_Qi (xR r2) (yB dC dI cI cJ cB h v i2 j2 a2 b2 A) A) args s 0 0 A) (F0 m 3 ls []) := by
  have htt : ∀ w ∈ tw_T, w.before _ s = true := fun w h => hts w (List.mem_cons_of_mem _ h)
  intro f
  induction f with
  | zero =>
    intro i j a b v1 v3 v5 hm
    rw [m_Model_holds_b3] at hm
    cases hm
  | succ f ih =>
    intro i j a b v1 v3 v5 hm H locs ls hP hD hS hl
    rw [m_Model_holds_b3] at hm
    refine lv_iload hx hb d_Model_holds_3 (lv_at hl 3 rfl) ?_
    refine lv_aload_n hx hb d_Model_holds_5 rfl (lv_at hl 0 rfl) ?_
    refine lv_lload_n hx hb d_Model_holds_6 rfl (lv_at hl 1 rfl) ?_
    obtain ⟨r_2, h_1, hm⟩ := ob0_some hm
    have hFc := x_free0 hS hA
    refine va_calli (va_runV (As := [.long v1]) (rest := [.int v5]) ⟨hx, hb, hml, hown, hts⟩ (x_Model_size l dC dI cI cJ cB adK adV adA h v H.size n h_1) (cwV 1 hts (tw_GV tw_cons cw_Model_size lk_Model_98 in_Model_size sel_Model_size ini_Model) rfl rfl rfl ⟨rfl, hd_Model_size⟩ ⟨Nat.le_of_ble_eq_true rfl, Nat.le_of_ble_eq_true rfl⟩) (ypVr hK hP hS hE hFc yo_12 rfl) rfl rfl hl.1 rfl (lv_room (Nat.le_of_ble_eq_true rfl)) d_Model_holds_7 ⟨Nat.le_of_ble_eq_true rfl, Nat.le_of_ble_eq_true rfl⟩) hS (fun q _ h => hFc q h) hFc (fun r9 u9 t9 H locs ht hvm e9 hB hz1 hk1 hS => ?_)
    have e9 : r_2 = r9 := e9
    subst e9
    replace hP := x_keep hP hk1
    clear hFc hk1 hz1 hvm hB ht
    refine lv_icmp_ge (tgt := 36) hx hb d_Model_holds_10 (by decide) (fun c_3 => ?_) (fun c_3 => ?_)
    · replace hm := if_t c_3 hm
      refine lv_iconst (v := 0) hx hb d_Model_holds_36 (by decide) ?_
      obtain ⟨e1i, e1j, e1a, e1b, e3⟩ := re4m hm
      obtain ⟨hP, hD⟩ := y_eq e1i e1j e1a e1b hP hD
      exact W.zret hx hb hr (by decide) (fun t9 ht hW => ⟨⟨_, (), rfl, e3.symm, by rw [ht]; exact hP, hD⟩, hS.F ht⟩) hS.2.2 d_Model_holds_37
    · replace hm := if_f c_3 hm
      refine lv_aload_n hx hb d_Model_holds_13 rfl (lv_at hl 0 rfl) ?_
      refine lv_aload_n hx hb d_Model_holds_14 rfl (lv_at hl 0 rfl) ?_
      refine lv_lload_n hx hb d_Model_holds_15 rfl (lv_at hl 1 rfl) ?_
      refine lv_iload hx hb d_Model_holds_16 (lv_at hl 3 rfl) ?_
      obtain ⟨r_5, h_4, hm⟩ := ob0_some hm
      have hFc := x_free0 hS hA
      refine va_calll (va_runV (As := [.long v1, .int v5]) (rest := [.ref h]) ⟨hx, hb, hml, hown, hts⟩ (x_Model_member l dC dI cI cJ cB adK adV adA h v H.size n h_4) (cwV 2 hts (tw_GV tw_cons cw_Model_member lk_Model_101 in_Model_member sel_Model_member ini_Model) rfl rfl rfl ⟨rfl, hd_Model_member⟩ ⟨Nat.le_of_ble_eq_true rfl, Nat.le_of_ble_eq_true rfl⟩) (ypVr hK hP hS hE hFc yo_12 rfl) rfl rfl hl.1 rfl (lv_room (Nat.le_of_ble_eq_true rfl)) d_Model_holds_18 ⟨Nat.le_of_ble_eq_true rfl, Nat.le_of_ble_eq_true rfl⟩) hS (fun q _ h => hFc q h) hFc (fun r9 u9 t9 H locs ht hvm e9 hB hz1 hk1 hS => ?_)
      have e9 : r_5 = r9 := e9
      subst e9
      replace hP := x_keep hP hk1
      clear hFc hk1 hz1 hvm hB ht
      refine lv_lload_n hx hb d_Model_holds_21 rfl (lv_at hl 2 rfl) ?_
      obtain ⟨i_7, j_8, a_9, b_10, r_11, h_6, hm⟩ := om_some hm
      have hFc := x_free hD hS hA
      refine va_calli (va_runV (As := [.long r_5, .long v3]) (rest := []) ⟨hx, hb, hml, hown, hts⟩ (x_Model_equal l dC dI cI cJ cB adK adV adA h v H.size n h_6) (cwV 2 hts (tw_GV tw_cons cw_Model_equal lk_Model_717 in_Model_equal sel_Model_equal ini_Model) rfl rfl rfl ⟨rfl, hd_Model_equal⟩ ⟨Nat.le_of_ble_eq_true rfl, Nat.le_of_ble_eq_true rfl⟩) (ypV hK hP hD hS hE hFc yo_12 rfl) rfl rfl hl.1 rfl (lv_room (Nat.le_of_ble_eq_true rfl)) d_Model_holds_22 ⟨Nat.le_of_ble_eq_true rfl, Nat.le_of_ble_eq_true rfl⟩) hS (fun q _ h => hFc q h) hFc (fun r9 u9 t9 H locs ht hvm e9 hB hz1 hk1 hS => ?_)
      have e9 : r_11 = r9 := e9
      subst e9
      obtain ⟨hP, hD⟩ := y_aft hB ht hFc
      clear hFc hk1 hz1 hvm hB ht
      refine lv_if_eq (tgt := 30) hx hb d_Model_holds_25 (by decide) (fun c_12 => ?_) (fun c_12 => ?_)
      · replace hm := if_t c_12 hm
        obtain ⟨x_13, ex_13⟩ : ∃ y9 : Int32, y9 = v5 + 1 := ⟨_, rfl⟩
        replace hm := ob1_at ex_13 hm
        refine lv_iinc (v := x_13) (lv' := [(5, .int x_13), (0, .ref h), (1, .long v1), (3, .long v3)]) hx hb d_Model_holds_30 hl (k := 3) rfl (by rw [ex_13]; rfl) (by decide) rfl (fun ls hl => ?_)
        refine lv_goto (tgt := 3) hx hb d_Model_holds_33 (by decide) ?_
        exact ih _ _ _ _ _ _ _ hm _ _ _ hP hD hS (lv_sub hl [1, 2, 3, 0] rfl)
      · replace hm := if_f c_12 hm
        refine lv_iconst (v := 1) hx hb d_Model_holds_28 (by decide) ?_
        obtain ⟨e1i, e1j, e1a, e1b, e3⟩ := re4m hm
        obtain ⟨hP, hD⟩ := y_eq e1i e1j e1a e1b hP hD
        exact W.zret hx hb hr (by decide) (fun t9 ht hW => ⟨⟨_, (), rfl, e3.symm, by rw [ht]; exact hP, hD⟩, hS.F ht⟩) hS.2.2 d_Model_holds_29
def m_Model_holds (n : Nat) (i : Nat → Int32) (j : Nat → Int64) (a : Nat → Nat → Int32) (b : Nat → Nat → Int64) (v1 : Int64) (v3 : Int64) : Option ((Nat → Int32) × (Nat → Int64) × (Nat → Nat → Int32) × (Nat → Nat → Int64) × Int32) := m_Model_holds_b3 n n i j a b v1 v3 (0 : Int32)
set_option maxHeartbeats 4000000 in
set_option maxRecDepth 100000 in
theorem x_Model_holds (l : Launch) (dC : Nat → ClassId) (dI : Nat → Nat → Nat) (cI cJ cB : ClassId) (adK adV adA : Nat → Nat) (h : Nat) (v : Nat → Nat) (sz : Nat) (n : Nat) {i : Nat → Int32} {j : Nat → Int64} {a : Nat → Nat → Int32} {b : Nat → Nat → Int64} {v1 : Int64} {v3 : Int64} {i2 : Nat → Int32} {j2 : Nat → Int64} {a2 : Nat → Nat → Int32} {b2 : Nat → Nat → Int64} {r2 : Int32} (hm : m_Model_holds n i j a b v1 v3 = some (i2, j2, a2, b2, r2)) : Met l y_Model_holds w_Model_holds ({ frames := 3, cells := 0, slots := 0, locals := 77 } : Room) (va_Pc [.ref h, .long v1, .long v3] (yE dC dI cI cJ cB adK adV adA h v i j a b sz)) (va_Qi (xR r2) (yB dC dI cI cJ cB h v i2 j2 a2 b2 (va_A (MW cI cJ cB h v i j a b) sz)) (va_A (MW cI cJ cB h v i j a b) sz)) 0 0 ((va_A (MW cI cJ cB h v i j a b) sz)) := by
  refine Met.ofW (cc := b_Model_holds) (maxL := 6) (ret := (some .boolean)) (by decide) rfl ?_
  intro p e s m args below meth c s₁ B hml hv
  obtain ⟨rfl, hsz, hP, hK, hE, hD0⟩ := hv
  have hx := B.exec
  have hb := B.bytes
  have hr := B.returns
  have hts := atoms_spec (ws := w_Model_holds) B.pre
  have htt : ∀ w ∈ tw_T, w.before _ s = true := fun w h => hts w (List.mem_cons_of_mem _ h)
  have hown : s.vm.findClass R_Model = some m.cls := findClass_of_methodNamed B.named
  have hlocks := B.notSynchronized
  subst hsz
  have hD := hD0.self (sz := s.heap.size)
  generalize hAe : (va_A (MW cI cJ cB h v i j a b) s.heap.size) = A at hD hE ⊢
  have hA : ∀ q : Nat, s.heap.size ≤ q → A q := fun q h => by rw [← hAe]; exact Or.inr h
  have hS : va_S A s.heap s.heap [] := va_S.rf
  have hl := lv_entry ([.ref h, .long v1, .long v3]) (n := 6) (Nat.le_of_ble_eq_true rfl)
  rw [lg_entry_eq]
  generalize (lg_sl ([.ref h, .long v1, .long v3]) ++ List.replicate (6 - (lg_sl ([.ref h, .long v1, .long v3])).length) Slot.unset).toArray = ls at hl ⊢
  have hl : lv_has ls 6 [(0, .ref h), (1, .long v1), (3, .long v3)] := hl
  rw [m_Model_holds] at hm
  refine lv_iconst (v := 0) hx hb d_Model_holds_0 (by decide) ?_
  refine lv_istore (lv' := [(5, .int 0), (0, .ref h), (1, .long v1), (3, .long v3)]) hx hb d_Model_holds_1 hl (by decide) rfl (fun ls hl => ?_)
  exact lb_Model_holds_3 l dC dI cI cJ cB adK adV adA h v n hx hb hml hown hts hK hE hA hr hlocks n _ _ _ _ _ _ _ hm _ _ _ hP hD hS (lv_sub hl [1, 2, 3, 0] rfl)

def m_Model_asNumber_v24_b34 (n : Nat) : Nat → (Nat → Int32) → (Nat → Int64) → (Nat → Nat → Int32) → (Nat → Nat → Int64) → Int32 → Int32 → Int32 → Int64 → Int32 → Option ((Nat → Int32) × (Nat → Int64) × (Nat → Nat → Int32) × (Nat → Nat → Int64) × Int32)
  | 0, _, _, _, _, _, _, _, _, _ => none
  | f + 1, i, j, a, b, v2, v3, v4, v5, v7 => if v3 ≤ v7 then if ((lg_cmp v5 1000000000)) ≤ ((0 : Int32)) then if v4 = ((1 : Int32)) then ob1 ((-v5).toInt32 : Int32) (fun x_5 => ob1 (upd i 28 x_5 : Nat → Int32) (fun i_6 => some (i_6, j, a, b, 1))) else ob1 (upd i 28 v5.toInt32 : Nat → Int32) (fun i_4 => some (i_4, j, a, b, 1)) else some (i, j, a, b, 2) else ck ((v2 + v7)) 40000 (ob1 (a 24 (v2 + v7).toNatClampNeg : Int32) (fun x_8 => if x_8 < ((48 : Int32)) then some (i, j, a, b, 0) else if x_8 ≤ ((57 : Int32)) then ob0 (m_Math_min2 n (((v5 * 10) + x_8.toInt64) - 48) (10000000000 : Int64)) (fun r_12 => ob1 (v7 + 1 : Int32) (fun x_13 => m_Model_asNumber_v24_b34 n f i j a b v2 v3 v4 r_12 x_13)) else some (i, j, a, b, 0)))
set_option maxHeartbeats 4000000 in
set_option maxRecDepth 100000 in
theorem lb_Model_asNumber_v24_34 (l : Launch) (dC : Nat → ClassId) (dI : Nat → Nat → Nat) (cI cJ cB : ClassId) (adK adV adA : Nat → Nat) (h : Nat) (v : Nat → Nat) (n : Nat) {p : Program} {e : Env} {s : State} {m : MethodId} {args : Array Value} {below : List Frame} {meth : Method} {c : Code} {A : Nat → Prop} (hx : p.tables.exec = Jvm.exec) (hb : c.code = b_Model_asNumber) (hml : c.maxLocals = 9) (hown : s.vm.findClass R_Model = some m.cls) (hts : ∀ w ∈ w_Model_asNumber, w.before args s = true) (hK : va_K (dC, dI) classes [(cI, .int), (cJ, .long), (cB, .byte)] s) (hE : tw_E adK adV adA A s s.heap) (hA : ∀ q : Nat, s.heap.size ≤ q → A q) (hr : meth.sig.returnType = (some .int)) (hlocks : meth.locks = false) {i2 : Nat → Int32} {j2 : Nat → Int64} {a2 : Nat → Nat → Int32} {b2 : Nat → Nat → Int64} {r2 : Int32} : ∀ (f : Nat) (i : Nat → Int32) (j : Nat → Int64) (a : Nat → Nat → Int32) (b : Nat → Nat → Int64) (v2 : Int32) (v3 : Int32) (v4 : Int32) (v5 : Int64) (v7 : Int32), m_Model_asNumber_v24_b34 n f i j a b v2 v3 v4 v5 v7 = some (i2, j2, a2, b2, r2) → ∀ (H : Heap) (locs : List Loc) (ls : Array Slot), va_P (dC, dI) classes (MW cI cJ cB h v i j a b) H → va_D A (MW cI cJ cB h v i j a b) → va_S A s.heap H locs → lv_has ls 9 [(0, .ref h), (1, .ref ((v 24))), (2, .int v2), (3, .int v3), (4, .int v4), (5, .long v5), (7, .int v7)] → W p l e ({ frames := 1, cells := 0, slots := 0, locals := 23 } : Room) s m args below meth c H locs 0 0 (MQ below (va_Qi (xR r2) (yB dC dI cI cJ cB h v i2 j2 a2 b2 A) A) args s 0 0 A) (F0 m 34 ls []) := by
  have htt : ∀ w ∈ tw_T, w.before _ s = true := fun w h => hts w (List.mem_cons_of_mem _ h)
  intro f
  induction f with
  | zero =>
    intro i j a b v2 v3 v4 v5 v7 hm
    rw [m_Model_asNumber_v24_b34] at hm
    cases hm
  | succ f ih =>
    intro i j a b v2 v3 v4 v5 v7 hm H locs ls hP hD hS hl
    rw [m_Model_asNumber_v24_b34] at hm
    refine lv_iload hx hb d_Model_asNumber_34 (lv_at hl 6 rfl) ?_
    refine lv_iload_n hx hb d_Model_asNumber_36 rfl (lv_at hl 3 rfl) ?_
    refine lv_icmp_ge (tgt := 92) hx hb d_Model_asNumber_37 (by decide) (fun c_1 => ?_) (fun c_1 => ?_)
    · replace hm := if_t c_1 hm
      refine lv_lload hx hb d_Model_asNumber_92 (lv_at hl 5 rfl) ?_
      refine lv_ldc2 (v := 1000000000) hx hb hown (htt _ lk_Model_144) d_Model_asNumber_94 ?_
      refine W.lcmp hx hb d_Model_asNumber_97 ?_
      refine lv_if_le (tgt := 103) hx hb d_Model_asNumber_98 (by decide) (fun c_2 => ?_) (fun c_2 => ?_)
      · replace hm := if_t c_2 hm
        refine lv_aload_n hx hb d_Model_asNumber_103 rfl (lv_at hl 0 rfl) ?_
        refine lv_iload hx hb d_Model_asNumber_104 (lv_at hl 4 rfl) ?_
        refine lv_iconst (v := 1) hx hb d_Model_asNumber_106 (by decide) ?_
        refine lv_icmp_ne (tgt := 116) hx hb d_Model_asNumber_107 (by decide) (fun c_3 => ?_) (fun c_3 => ?_)
        · replace hm := if_f c_3 hm
          refine lv_lload hx hb d_Model_asNumber_116 (lv_at hl 5 rfl) ?_
          refine lv_l2i hx hb d_Model_asNumber_118 rfl ?_
          refine va_put (D := (dC, dI)) (ci := 12) (v := .int v5.toInt32) (ty := .int) (C := R_Model) (T := F_Model) (N := 127) hx hb htt iw_Model t_Model t_Model_ok n_Model hown hK hP hD hS 0 yo_12 rfl 28 (Nat.le_of_ble_eq_true rfl) (htt _ lk_Model_146) (fun _ h9 => h9) rfl (by decide +kernel) rfl rfl yl_28 d_Model_asNumber_119 (fun H locs hP hD hS => ?_)
          obtain ⟨i_4, ei_4⟩ : ∃ y9 : Nat → Int32, y9 = upd i 28 v5.toInt32 := ⟨_, rfl⟩
          replace hm := ob1_at ei_4 hm
          obtain ⟨hP, hD⟩ := yw_28 ei_4 hP hD
          refine lv_iconst (v := 1) hx hb d_Model_asNumber_122 (by decide) ?_
          obtain ⟨e1i, e1j, e1a, e1b, e3⟩ := re4m hm
          obtain ⟨hP, hD⟩ := y_eq e1i e1j e1a e1b hP hD
          exact W.iret hx hb hr (fun t9 ht hW => ⟨⟨_, (), rfl, e3.symm, by rw [ht]; exact hP, hD⟩, hS.F ht⟩) hS.2.2 d_Model_asNumber_123
        · replace hm := if_t c_3 hm
          refine lv_lload hx hb d_Model_asNumber_110 (lv_at hl 5 rfl) ?_
          refine lv_lneg hx hb d_Model_asNumber_112 ?_
          refine lv_goto (tgt := 118) hx hb d_Model_asNumber_113 (by decide) ?_
          refine lv_l2i hx hb d_Model_asNumber_118 rfl ?_
          refine lv_topi (fun x_5 ex_5 => ?_)
          replace hm := ob1_at ex_5 hm
          refine va_put (D := (dC, dI)) (ci := 12) (v := .int x_5) (ty := .int) (C := R_Model) (T := F_Model) (N := 127) hx hb htt iw_Model t_Model t_Model_ok n_Model hown hK hP hD hS 0 yo_12 rfl 28 (Nat.le_of_ble_eq_true rfl) (htt _ lk_Model_146) (fun _ h9 => h9) rfl (by decide +kernel) rfl rfl yl_28 d_Model_asNumber_119 (fun H locs hP hD hS => ?_)
          obtain ⟨i_6, ei_6⟩ : ∃ y9 : Nat → Int32, y9 = upd i 28 x_5 := ⟨_, rfl⟩
          replace hm := ob1_at ei_6 hm
          obtain ⟨hP, hD⟩ := yw_28 ei_6 hP hD
          refine lv_iconst (v := 1) hx hb d_Model_asNumber_122 (by decide) ?_
          obtain ⟨e1i, e1j, e1a, e1b, e3⟩ := re4m hm
          obtain ⟨hP, hD⟩ := y_eq e1i e1j e1a e1b hP hD
          exact W.iret hx hb hr (fun t9 ht hW => ⟨⟨_, (), rfl, e3.symm, by rw [ht]; exact hP, hD⟩, hS.F ht⟩) hS.2.2 d_Model_asNumber_123
      · replace hm := if_f c_2 hm
        refine lv_iconst (v := 2) hx hb d_Model_asNumber_101 (by decide) ?_
        obtain ⟨e1i, e1j, e1a, e1b, e3⟩ := re4m hm
        obtain ⟨hP, hD⟩ := y_eq e1i e1j e1a e1b hP hD
        exact W.iret hx hb hr (fun t9 ht hW => ⟨⟨_, (), rfl, e3.symm, by rw [ht]; exact hP, hD⟩, hS.F ht⟩) hS.2.2 d_Model_asNumber_102
    · replace hm := if_f c_1 hm
      refine lv_aload_n hx hb d_Model_asNumber_40 rfl (lv_at hl 1 rfl) ?_
      refine lv_iload_n hx hb d_Model_asNumber_41 rfl (lv_at hl 2 rfl) ?_
      refine lv_iload hx hb d_Model_asNumber_42 (lv_at hl 6 rfl) ?_
      refine lv_iadd hx hb d_Model_asNumber_44 ?_
      obtain ⟨h_7, hm⟩ := ck_some hm
      refine va_bald hx hb hK hP 20 2 ya_24 rfl h_7 d_Model_asNumber_45 ?_
      refine lv_topi (fun x_8 ex_8 => ?_)
      replace hm := ob1_at ex_8 hm
      refine lv_istore (lv' := [(8, .int x_8), (0, .ref h), (1, .ref ((v 24))), (2, .int v2), (3, .int v3), (4, .int v4), (5, .long v5), (7, .int v7)]) hx hb d_Model_asNumber_46 hl (by decide) rfl (fun ls hl => ?_)
      refine lv_iload hx hb d_Model_asNumber_48 (lv_at hl 0 rfl) ?_
      refine lv_bipush (v := 48) hx hb d_Model_asNumber_50 (by decide) ?_
      refine lv_icmp_lt (tgt := 62) hx hb d_Model_asNumber_52 (by decide) (fun c_9 => ?_) (fun c_9 => ?_)
      · replace hm := if_t c_9 hm
        refine lv_iconst (v := 0) hx hb d_Model_asNumber_62 (by decide) ?_
        obtain ⟨e1i, e1j, e1a, e1b, e3⟩ := re4m hm
        obtain ⟨hP, hD⟩ := y_eq e1i e1j e1a e1b hP hD
        exact W.iret hx hb hr (fun t9 ht hW => ⟨⟨_, (), rfl, e3.symm, by rw [ht]; exact hP, hD⟩, hS.F ht⟩) hS.2.2 d_Model_asNumber_63
      · replace hm := if_f c_9 hm
        refine lv_iload hx hb d_Model_asNumber_55 (lv_at hl 0 rfl) ?_
        refine lv_bipush (v := 57) hx hb d_Model_asNumber_57 (by decide) ?_
        refine lv_icmp_le (tgt := 64) hx hb d_Model_asNumber_59 (by decide) (fun c_10 => ?_) (fun c_10 => ?_)
        · replace hm := if_t c_10 hm
          refine lv_lload hx hb d_Model_asNumber_64 (lv_at hl 6 rfl) ?_
          refine lv_ldc2 (v := 10) hx hb hown (htt _ lk_Model_134) d_Model_asNumber_66 ?_
          refine lv_lmul hx hb d_Model_asNumber_69 ?_
          refine lv_iload hx hb d_Model_asNumber_70 (lv_at hl 0 rfl) ?_
          refine lv_i2l hx hb d_Model_asNumber_72 rfl ?_
          refine lv_ladd hx hb d_Model_asNumber_73 ?_
          refine lv_ldc2 (v := 48) hx hb hown (htt _ lk_Model_136) d_Model_asNumber_74 ?_
          refine lv_lsub hx hb d_Model_asNumber_77 ?_
          refine lv_ldc2 (v := 10000000000) hx hb hown (htt _ lk_Model_138) d_Model_asNumber_78 ?_
          obtain ⟨r_12, h_11, hm⟩ := ob0_some hm
          have hFc := x_free0 hS hA
          refine va_calll (va_runS (As := [.long (((v5 * 10) + x_8.toInt64) - 48), .long 10000000000]) (rest := []) ⟨hx, hb, hml, hown, hts⟩ (x_Math_min2 l H.size n h_11) (va_cwS 2 hts (tw_GS tw_cons cw_Math_min2 lk_Model_140 st_Math_min2 ini_Math) rfl rfl rfl hd_Math_min2 ⟨Nat.le_of_ble_eq_true rfl, Nat.le_of_ble_eq_true rfl⟩) xpS0 rfl rfl hl.1 rfl (lv_room (Nat.le_of_ble_eq_true rfl)) d_Model_asNumber_81 ⟨Nat.le_of_ble_eq_true rfl, Nat.le_of_ble_eq_true rfl⟩) hS (fun q _ h => hFc q h) hFc (fun r9 u9 t9 H locs ht hvm e9 hB hz1 hk1 hS => ?_)
          have e9 : r_12 = r9 := e9
          subst e9
          replace hP := x_keep hP hk1
          clear hFc hk1 hz1 hvm hB ht
          refine lv_lstore (lv' := [(5, .long r_12), (8, .int x_8), (0, .ref h), (1, .ref ((v 24))), (2, .int v2), (3, .int v3), (4, .int v4), (7, .int v7)]) hx hb d_Model_asNumber_84 hl (by decide) rfl (fun ls hl => ?_)
          obtain ⟨x_13, ex_13⟩ : ∃ y9 : Int32, y9 = v7 + 1 := ⟨_, rfl⟩
          replace hm := ob1_at ex_13 hm
          refine lv_iinc (v := x_13) (lv' := [(7, .int x_13), (5, .long r_12), (8, .int x_8), (0, .ref h), (1, .ref ((v 24))), (2, .int v2), (3, .int v3), (4, .int v4)]) hx hb d_Model_asNumber_86 hl (k := 7) rfl (by rw [ex_13]; rfl) (by decide) rfl (fun ls hl => ?_)
          refine lv_goto (tgt := 34) hx hb d_Model_asNumber_89 (by decide) ?_
          exact ih _ _ _ _ _ _ _ _ _ hm _ _ _ hP hD hS (lv_sub hl [3, 4, 5, 6, 7, 1, 0] rfl)
        · replace hm := if_f c_10 hm
          refine lv_iconst (v := 0) hx hb d_Model_asNumber_62 (by decide) ?_
          obtain ⟨e1i, e1j, e1a, e1b, e3⟩ := re4m hm
          obtain ⟨hP, hD⟩ := y_eq e1i e1j e1a e1b hP hD
          exact W.iret hx hb hr (fun t9 ht hW => ⟨⟨_, (), rfl, e3.symm, by rw [ht]; exact hP, hD⟩, hS.F ht⟩) hS.2.2 d_Model_asNumber_63
def m_Model_asNumber_v24_b17 (n : Nat) (i : Nat → Int32) (j : Nat → Int64) (a : Nat → Nat → Int32) (b : Nat → Nat → Int64) (v2 : Int32) (v3 : Int32) (s0 : Int32) : Option ((Nat → Int32) × (Nat → Int64) × (Nat → Nat → Int32) × (Nat → Nat → Int64) × Int32) := if s0 = v3 then some (i, j, a, b, 0) else m_Model_asNumber_v24_b34 n n i j a b v2 v3 s0 (0 : Int64) s0
set_option maxHeartbeats 4000000 in
set_option maxRecDepth 100000 in
theorem lb_Model_asNumber_v24_17 (l : Launch) (dC : Nat → ClassId) (dI : Nat → Nat → Nat) (cI cJ cB : ClassId) (adK adV adA : Nat → Nat) (h : Nat) (v : Nat → Nat) (n : Nat) {p : Program} {e : Env} {s : State} {m : MethodId} {args : Array Value} {below : List Frame} {meth : Method} {c : Code} {A : Nat → Prop} (hx : p.tables.exec = Jvm.exec) (hb : c.code = b_Model_asNumber) (hml : c.maxLocals = 9) (hown : s.vm.findClass R_Model = some m.cls) (hts : ∀ w ∈ w_Model_asNumber, w.before args s = true) (hK : va_K (dC, dI) classes [(cI, .int), (cJ, .long), (cB, .byte)] s) (hE : tw_E adK adV adA A s s.heap) (hA : ∀ q : Nat, s.heap.size ≤ q → A q) (hr : meth.sig.returnType = (some .int)) (hlocks : meth.locks = false) {i2 : Nat → Int32} {j2 : Nat → Int64} {a2 : Nat → Nat → Int32} {b2 : Nat → Nat → Int64} {r2 : Int32} (i : Nat → Int32) (j : Nat → Int64) (a : Nat → Nat → Int32) (b : Nat → Nat → Int64) (v2 : Int32) (v3 : Int32) (s0 : Int32) (hm : m_Model_asNumber_v24_b17 n i j a b v2 v3 s0 = some (i2, j2, a2, b2, r2)) : ∀ (H : Heap) (locs : List Loc) (ls : Array Slot), va_P (dC, dI) classes (MW cI cJ cB h v i j a b) H → va_D A (MW cI cJ cB h v i j a b) → va_S A s.heap H locs → lv_has ls 9 [(0, .ref h), (1, .ref ((v 24))), (2, .int v2), (3, .int v3)] → W p l e ({ frames := 1, cells := 0, slots := 0, locals := 23 } : Room) s m args below meth c H locs 0 0 (MQ below (va_Qi (xR r2) (yB dC dI cI cJ cB h v i2 j2 a2 b2 A) A) args s 0 0 A) (F0 m 17 ls [.int s0]) := by
  have htt : ∀ w ∈ tw_T, w.before _ s = true := fun w h => hts w (List.mem_cons_of_mem _ h)
  intro H locs ls hP hD hS hl
  rw [m_Model_asNumber_v24_b17] at hm
  refine lv_istore (lv' := [(4, .int s0), (0, .ref h), (1, .ref ((v 24))), (2, .int v2), (3, .int v3)]) hx hb d_Model_asNumber_17 hl (by decide) rfl (fun ls hl => ?_)
  refine lv_iload hx hb d_Model_asNumber_19 (lv_at hl 0 rfl) ?_
  refine lv_iload_n hx hb d_Model_asNumber_21 rfl (lv_at hl 4 rfl) ?_
  refine lv_icmp_ne (tgt := 27) hx hb d_Model_asNumber_22 (by decide) (fun c_1 => ?_) (fun c_1 => ?_)
  · replace hm := if_f c_1 hm
    refine lv_lconst (v := 0) hx hb d_Model_asNumber_27 (by decide) ?_
    refine lv_lstore (lv' := [(5, .long 0), (4, .int s0), (0, .ref h), (1, .ref ((v 24))), (2, .int v2), (3, .int v3)]) hx hb d_Model_asNumber_28 hl (by decide) rfl (fun ls hl => ?_)
    refine lv_iload hx hb d_Model_asNumber_30 (lv_at hl 1 rfl) ?_
    refine lv_istore (lv' := [(7, .int s0), (5, .long 0), (4, .int s0), (0, .ref h), (1, .ref ((v 24))), (2, .int v2), (3, .int v3)]) hx hb d_Model_asNumber_32 hl (by decide) rfl (fun ls hl => ?_)
    exact lb_Model_asNumber_v24_34 l dC dI cI cJ cB adK adV adA h v n hx hb hml hown hts hK hE hA hr hlocks n _ _ _ _ _ _ _ _ _ hm _ _ _ hP hD hS (lv_sub hl [3, 4, 5, 6, 2, 1, 0] rfl)
  · replace hm := if_t c_1 hm
    refine lv_iconst (v := 0) hx hb d_Model_asNumber_25 (by decide) ?_
    obtain ⟨e1i, e1j, e1a, e1b, e3⟩ := re4m hm
    obtain ⟨hP, hD⟩ := y_eq e1i e1j e1a e1b hP hD
    exact W.iret hx hb hr (fun t9 ht hW => ⟨⟨_, (), rfl, e3.symm, by rw [ht]; exact hP, hD⟩, hS.F ht⟩) hS.2.2 d_Model_asNumber_26
def m_Model_asNumber_v24_b16 (n : Nat) (i : Nat → Int32) (j : Nat → Int64) (a : Nat → Nat → Int32) (b : Nat → Nat → Int64) (v2 : Int32) (v3 : Int32) : Option ((Nat → Int32) × (Nat → Int64) × (Nat → Nat → Int32) × (Nat → Nat → Int64) × Int32) := m_Model_asNumber_v24_b17 n i j a b v2 v3 (0 : Int32)
set_option maxHeartbeats 4000000 in
set_option maxRecDepth 100000 in
theorem lb_Model_asNumber_v24_16 (l : Launch) (dC : Nat → ClassId) (dI : Nat → Nat → Nat) (cI cJ cB : ClassId) (adK adV adA : Nat → Nat) (h : Nat) (v : Nat → Nat) (n : Nat) {p : Program} {e : Env} {s : State} {m : MethodId} {args : Array Value} {below : List Frame} {meth : Method} {c : Code} {A : Nat → Prop} (hx : p.tables.exec = Jvm.exec) (hb : c.code = b_Model_asNumber) (hml : c.maxLocals = 9) (hown : s.vm.findClass R_Model = some m.cls) (hts : ∀ w ∈ w_Model_asNumber, w.before args s = true) (hK : va_K (dC, dI) classes [(cI, .int), (cJ, .long), (cB, .byte)] s) (hE : tw_E adK adV adA A s s.heap) (hA : ∀ q : Nat, s.heap.size ≤ q → A q) (hr : meth.sig.returnType = (some .int)) (hlocks : meth.locks = false) {i2 : Nat → Int32} {j2 : Nat → Int64} {a2 : Nat → Nat → Int32} {b2 : Nat → Nat → Int64} {r2 : Int32} (i : Nat → Int32) (j : Nat → Int64) (a : Nat → Nat → Int32) (b : Nat → Nat → Int64) (v2 : Int32) (v3 : Int32) (hm : m_Model_asNumber_v24_b16 n i j a b v2 v3 = some (i2, j2, a2, b2, r2)) : ∀ (H : Heap) (locs : List Loc) (ls : Array Slot), va_P (dC, dI) classes (MW cI cJ cB h v i j a b) H → va_D A (MW cI cJ cB h v i j a b) → va_S A s.heap H locs → lv_has ls 9 [(0, .ref h), (1, .ref ((v 24))), (2, .int v2), (3, .int v3)] → W p l e ({ frames := 1, cells := 0, slots := 0, locals := 23 } : Room) s m args below meth c H locs 0 0 (MQ below (va_Qi (xR r2) (yB dC dI cI cJ cB h v i2 j2 a2 b2 A) A) args s 0 0 A) (F0 m 16 ls []) := by
  have htt : ∀ w ∈ tw_T, w.before _ s = true := fun w h => hts w (List.mem_cons_of_mem _ h)
  intro H locs ls hP hD hS hl
  rw [m_Model_asNumber_v24_b16] at hm
  refine lv_iconst (v := 0) hx hb d_Model_asNumber_16 (by decide) ?_
  exact lb_Model_asNumber_v24_17 l dC dI cI cJ cB adK adV adA h v n hx hb hml hown hts hK hE hA hr hlocks _ _ _ _ _ _ _ hm _ _ _ hP hD hS (lv_sub hl [0, 1, 2, 3] rfl)
def m_Model_asNumber_v24 (n : Nat) (i : Nat → Int32) (j : Nat → Int64) (a : Nat → Nat → Int32) (b : Nat → Nat → Int64) (v2 : Int32) (v3 : Int32) : Option ((Nat → Int32) × (Nat → Int64) × (Nat → Nat → Int32) × (Nat → Nat → Int64) × Int32) := if v3 ≤ ((0 : Int32)) then m_Model_asNumber_v24_b16 n i j a b v2 v3 else ck v2 40000 (if ((a 24 v2.toNatClampNeg)) = ((45 : Int32)) then m_Model_asNumber_v24_b17 n i j a b v2 v3 (1 : Int32) else m_Model_asNumber_v24_b16 n i j a b v2 v3)
set_option maxHeartbeats 4000000 in
set_option maxRecDepth 100000 in
theorem x_Model_asNumber_v24 (l : Launch) (dC : Nat → ClassId) (dI : Nat → Nat → Nat) (cI cJ cB : ClassId) (adK adV adA : Nat → Nat) (h : Nat) (v : Nat → Nat) (sz : Nat) (n : Nat) {i : Nat → Int32} {j : Nat → Int64} {a : Nat → Nat → Int32} {b : Nat → Nat → Int64} {v2 : Int32} {v3 : Int32} {i2 : Nat → Int32} {j2 : Nat → Int64} {a2 : Nat → Nat → Int32} {b2 : Nat → Nat → Int64} {r2 : Int32} (hm : m_Model_asNumber_v24 n i j a b v2 v3 = some (i2, j2, a2, b2, r2)) : Met l y_Model_asNumber w_Model_asNumber ({ frames := 1, cells := 0, slots := 0, locals := 23 } : Room) (va_Pc [.ref h, .ref ((v 24)), .int v2, .int v3] (yE dC dI cI cJ cB adK adV adA h v i j a b sz)) (va_Qi (xR r2) (yB dC dI cI cJ cB h v i2 j2 a2 b2 (va_A (MW cI cJ cB h v i j a b) sz)) (va_A (MW cI cJ cB h v i j a b) sz)) 0 0 ((va_A (MW cI cJ cB h v i j a b) sz)) := by
  refine Met.ofW (cc := b_Model_asNumber) (maxL := 9) (ret := (some .int)) (by decide) rfl ?_
  intro p e s m args below meth c s₁ B hml hv
  obtain ⟨rfl, hsz, hP, hK, hE, hD0⟩ := hv
  have hx := B.exec
  have hb := B.bytes
  have hr := B.returns
  have hts := atoms_spec (ws := w_Model_asNumber) B.pre
  have htt : ∀ w ∈ tw_T, w.before _ s = true := fun w h => hts w (List.mem_cons_of_mem _ h)
  have hown : s.vm.findClass R_Model = some m.cls := findClass_of_methodNamed B.named
  have hlocks := B.notSynchronized
  subst hsz
  have hD := hD0.self (sz := s.heap.size)
  generalize hAe : (va_A (MW cI cJ cB h v i j a b) s.heap.size) = A at hD hE ⊢
  have hA : ∀ q : Nat, s.heap.size ≤ q → A q := fun q h => by rw [← hAe]; exact Or.inr h
  have hS : va_S A s.heap s.heap [] := va_S.rf
  have hl := lv_entry ([.ref h, .ref ((v 24)), .int v2, .int v3]) (n := 9) (Nat.le_of_ble_eq_true rfl)
  rw [lg_entry_eq]
  generalize (lg_sl ([.ref h, .ref ((v 24)), .int v2, .int v3]) ++ List.replicate (9 - (lg_sl ([.ref h, .ref ((v 24)), .int v2, .int v3])).length) Slot.unset).toArray = ls at hl ⊢
  have hl : lv_has ls 9 [(0, .ref h), (1, .ref ((v 24))), (2, .int v2), (3, .int v3)] := hl
  rw [m_Model_asNumber_v24] at hm
  refine lv_iload_n hx hb d_Model_asNumber_0 rfl (lv_at hl 3 rfl) ?_
  refine lv_if_le (tgt := 16) hx hb d_Model_asNumber_1 (by decide) (fun c_1 => ?_) (fun c_1 => ?_)
  · replace hm := if_t c_1 hm
    exact lb_Model_asNumber_v24_16 l dC dI cI cJ cB adK adV adA h v n hx hb hml hown hts hK hE hA hr hlocks _ _ _ _ _ _ hm _ _ _ hP hD hS (lv_sub hl [0, 1, 2, 3] rfl)
  · replace hm := if_f c_1 hm
    refine lv_aload_n hx hb d_Model_asNumber_4 rfl (lv_at hl 1 rfl) ?_
    refine lv_iload_n hx hb d_Model_asNumber_5 rfl (lv_at hl 2 rfl) ?_
    obtain ⟨h_2, hm⟩ := ck_some hm
    refine va_bald hx hb hK hP 20 2 ya_24 rfl h_2 d_Model_asNumber_6 ?_
    refine lv_bipush (v := 45) hx hb d_Model_asNumber_7 (by decide) ?_
    refine lv_icmp_ne (tgt := 16) hx hb d_Model_asNumber_9 (by decide) (fun c_3 => ?_) (fun c_3 => ?_)
    · replace hm := if_f c_3 hm
      exact lb_Model_asNumber_v24_16 l dC dI cI cJ cB adK adV adA h v n hx hb hml hown hts hK hE hA hr hlocks _ _ _ _ _ _ hm _ _ _ hP hD hS (lv_sub hl [0, 1, 2, 3] rfl)
    · replace hm := if_t c_3 hm
      refine lv_iconst (v := 1) hx hb d_Model_asNumber_12 (by decide) ?_
      refine lv_goto (tgt := 17) hx hb d_Model_asNumber_13 (by decide) ?_
      exact lb_Model_asNumber_v24_17 l dC dI cI cJ cB adK adV adA h v n hx hb hml hown hts hK hE hA hr hlocks _ _ _ _ _ _ _ hm _ _ _ hP hD hS (lv_sub hl [0, 1, 2, 3] rfl)

def m_Model_joined (n : Nat) (i : Nat → Int32) (j : Nat → Int64) (a : Nat → Nat → Int32) (b : Nat → Nat → Int64) (v1 : Int64) (v3 : Int64) : Option ((Nat → Int32) × (Nat → Int64) × (Nat → Nat → Int32) × (Nat → Nat → Int64) × Int64) := ob0 (m_Model_isList n v1) (fun r_2 => if r_2 = ((0 : Int32)) then ob0 (m_Model_isList n v3) (fun r_11 => if r_11 = ((0 : Int32)) then ob1 (upd i 25 0 : Nat → Int32) (fun i_13 => om (m_Model_sayFlat n i_13 j a b v1) (fun i_15 j_16 a_17 b_18 r_19 => om (m_Model_sayFlat n i_15 j_16 a_17 b_18 v3) (fun i_21 j_22 a_23 b_24 r_25 => om (m_Model_asNumber_v24 n i_21 j_22 a_23 b_24 (0 : Int32) (i_21 25)) (fun i_27 j_28 a_29 b_30 r_31 => if r_31 = ((2 : Int32)) then om (m_Model_fails n i_27 j_28 a_29 b_30 (9 : Int32)) (fun i_78 j_79 a_80 b_81 r_82 => some (i_78, j_79, a_80, b_81, r_82)) else ob1 (i_27 28 : Int32) (fun x_33 => if r_31 = ((1 : Int32)) then ob1 (upd i_27 25 0 : Nat → Int32) (fun i_61 => om (m_Model_sayNumber n i_61 j_28 a_29 b_30 x_33) (fun i_63 j_64 a_65 b_66 r_67 => om (m_Model_makes n i_63 j_64 a_65 b_66 (i_63 25)) (fun i_69 j_70 a_71 b_72 r_73 => if r_73 = ((0 : Int32)) then some (i_69, j_70, a_71, b_72, 3) else ob0 (m_Model_number n x_33) (fun r_76 => some (i_69, j_70, a_71, b_72, r_76))))) else if ((i_27 25)) ≤ ((30 : Int32)) then om (m_Model_makes n i_27 j_28 a_29 b_30 (i_27 25)) (fun i_37 j_38 a_39 b_40 r_41 => if r_41 = ((0 : Int32)) then some (i_37, j_38, a_39, b_40, 3) else cy ((0 : Int32)) (i_37 18) (i_37 25) 40000 300000 (cyb (a_39 24) ((0 : Int32)) (i_37 25) (ob1 (updA a_39 1 (va_cpy (a_39 24) (a_39 1) (0 : Int32).toNatClampNeg (i_37 18).toNatClampNeg (i_37 25).toNatClampNeg) : Nat → Nat → Int32) (fun a_44 => om (m_Model_newWord n i_37 j_38 a_44 b_40 (i_37 18) (i_37 25)) (fun i_46 j_47 a_48 b_49 r_50 => ob0 (m_Model_wordValue n r_50) (fun r_52 => ob1 ((i_46 18) + (i_46 25) : Int32) (fun x_53 => ob1 (upd i_46 18 x_53 : Nat → Int32) (fun i_54 => some (i_54, j_47, a_48, b_49, r_52))))))))) else om (m_Model_fails n i_27 j_28 a_29 b_30 (8 : Int32)) (fun i_56 j_57 a_58 b_59 r_60 => some (i_56, j_57, a_58, b_59, r_60))))))) else om (m_Model_fails n i j a b (3 : Int32)) (fun i_84 j_85 a_86 b_87 r_88 => some (i_84, j_85, a_86, b_87, r_88))) else om (m_Model_fails n i j a b (3 : Int32)) (fun i_5 j_6 a_7 b_8 r_9 => some (i_5, j_6, a_7, b_8, r_9)))
set_option maxHeartbeats 4000000 in
set_option maxRecDepth 100000 in
theorem x_Model_joined (l : Launch) (dC : Nat → ClassId) (dI : Nat → Nat → Nat) (cI cJ cB : ClassId) (adK adV adA : Nat → Nat) (h : Nat) (v : Nat → Nat) (sz : Nat) (n : Nat) {i : Nat → Int32} {j : Nat → Int64} {a : Nat → Nat → Int32} {b : Nat → Nat → Int64} {v1 : Int64} {v3 : Int64} {i2 : Nat → Int32} {j2 : Nat → Int64} {a2 : Nat → Nat → Int32} {b2 : Nat → Nat → Int64} {r2 : Int64} (hm : m_Model_joined n i j a b v1 v3 = some (i2, j2, a2, b2, r2)) : Met l y_Model_joined w_Model_joined ({ frames := 3, cells := 0, slots := 0, locals := 67 } : Room) (va_Pc [.ref h, .long v1, .long v3] (yE dC dI cI cJ cB adK adV adA h v i j a b sz)) (va_Ql (xR r2) (yB dC dI cI cJ cB h v i2 j2 a2 b2 (va_A (MW cI cJ cB h v i j a b) sz)) (va_A (MW cI cJ cB h v i j a b) sz)) 0 0 ((va_A (MW cI cJ cB h v i j a b) sz)) := by
  refine Met.ofW (cc := b_Model_joined) (maxL := 9) (ret := (some .long)) (by decide) rfl ?_
  intro p e s m args below meth c s₁ B hml hv
  obtain ⟨rfl, hsz, hP, hK, hE, hD0⟩ := hv
  have hx := B.exec
  have hb := B.bytes
  have hr := B.returns
  have hts := atoms_spec (ws := w_Model_joined) B.pre
  have htt : ∀ w ∈ tw_T, w.before _ s = true := fun w h => hts w (List.mem_cons_of_mem _ h)
  have hown : s.vm.findClass R_Model = some m.cls := findClass_of_methodNamed B.named
  have hlocks := B.notSynchronized
  subst hsz
  have hD := hD0.self (sz := s.heap.size)
  generalize hAe : (va_A (MW cI cJ cB h v i j a b) s.heap.size) = A at hD hE ⊢
  have hA : ∀ q : Nat, s.heap.size ≤ q → A q := fun q h => by rw [← hAe]; exact Or.inr h
  have hS : va_S A s.heap s.heap [] := va_S.rf
  have hl := lv_entry ([.ref h, .long v1, .long v3]) (n := 9) (Nat.le_of_ble_eq_true rfl)
  rw [lg_entry_eq]
  generalize (lg_sl ([.ref h, .long v1, .long v3]) ++ List.replicate (9 - (lg_sl ([.ref h, .long v1, .long v3])).length) Slot.unset).toArray = ls at hl ⊢
  have hl : lv_has ls 9 [(0, .ref h), (1, .long v1), (3, .long v3)] := hl
  rw [m_Model_joined] at hm
  refine lv_lload_n hx hb d_Model_joined_0 rfl (lv_at hl 1 rfl) ?_
  obtain ⟨r_2, h_1, hm⟩ := ob0_some hm
  have hFc := x_free0 hS hA
  refine va_calli (va_runS (As := [.long v1]) (rest := []) ⟨hx, hb, hml, hown, hts⟩ (x_Model_isList l s.heap.size n h_1) (va_cwS 1 hts (tw_GS tw_cons cw_Model_isList lk_Model_95 st_Model_isList ini_Model) rfl rfl rfl hd_Model_isList ⟨Nat.le_of_ble_eq_true rfl, Nat.le_of_ble_eq_true rfl⟩) xpS0 rfl rfl hl.1 rfl (lv_room (Nat.le_of_ble_eq_true rfl)) d_Model_joined_1 ⟨Nat.le_of_ble_eq_true rfl, Nat.le_of_ble_eq_true rfl⟩) hS (fun q _ h => hFc q h) hFc (fun r9 u9 t9 H locs ht hvm e9 hB hz1 hk1 hS => ?_)
  have e9 : r_2 = r9 := e9
  subst e9
  replace hP := x_keep hP hk1
  clear hFc hk1 hz1 hvm hB ht
  refine lv_if_ne (tgt := 14) hx hb d_Model_joined_4 (by decide) (fun c_3 => ?_) (fun c_3 => ?_)
  · replace hm := if_f c_3 hm
    refine lv_aload_n hx hb d_Model_joined_14 rfl (lv_at hl 0 rfl) ?_
    refine lv_iconst (v := 3) hx hb d_Model_joined_15 (by decide) ?_
    obtain ⟨i_5, j_6, a_7, b_8, r_9, h_4, hm⟩ := om_some hm
    have hFc := x_free hD hS hA
    refine va_calll (va_runV (As := [.int 3]) (rest := []) ⟨hx, hb, hml, hown, hts⟩ (x_Model_fails l dC dI cI cJ cB adK adV adA h v H.size n h_4) (cwV 1 hts (tw_GV tw_cons cw_Model_fails lk_Model_596 in_Model_fails sel_Model_fails ini_Model) rfl rfl rfl ⟨rfl, hd_Model_fails⟩ ⟨Nat.le_of_ble_eq_true rfl, Nat.le_of_ble_eq_true rfl⟩) (ypV hK hP hD hS hE hFc yo_12 rfl) rfl rfl hl.1 rfl (lv_room (Nat.le_of_ble_eq_true rfl)) d_Model_joined_16 ⟨Nat.le_of_ble_eq_true rfl, Nat.le_of_ble_eq_true rfl⟩) hS (fun q _ h => hFc q h) hFc (fun r9 u9 t9 H locs ht hvm e9 hB hz1 hk1 hS => ?_)
    have e9 : r_9 = r9 := e9
    subst e9
    obtain ⟨hP, hD⟩ := y_aft hB ht hFc
    clear hFc hk1 hz1 hvm hB ht
    obtain ⟨e1i, e1j, e1a, e1b, e3⟩ := re4m hm
    obtain ⟨hP, hD⟩ := y_eq e1i e1j e1a e1b hP hD
    exact W.lret hx hb hr (fun t9 ht hW => ⟨⟨_, (), rfl, e3.symm, by rw [ht]; exact hP, hD⟩, hS.F ht⟩) hS.2.2 d_Model_joined_19
  · replace hm := if_t c_3 hm
    refine lv_lload_n hx hb d_Model_joined_7 rfl (lv_at hl 2 rfl) ?_
    obtain ⟨r_11, h_10, hm⟩ := ob0_some hm
    have hFc := x_free0 hS hA
    refine va_calli (va_runS (As := [.long v3]) (rest := []) ⟨hx, hb, hml, hown, hts⟩ (x_Model_isList l H.size n h_10) (va_cwS 1 hts (tw_GS tw_cons cw_Model_isList lk_Model_95 st_Model_isList ini_Model) rfl rfl rfl hd_Model_isList ⟨Nat.le_of_ble_eq_true rfl, Nat.le_of_ble_eq_true rfl⟩) xpS0 rfl rfl hl.1 rfl (lv_room (Nat.le_of_ble_eq_true rfl)) d_Model_joined_8 ⟨Nat.le_of_ble_eq_true rfl, Nat.le_of_ble_eq_true rfl⟩) hS (fun q _ h => hFc q h) hFc (fun r9 u9 t9 H locs ht hvm e9 hB hz1 hk1 hS => ?_)
    have e9 : r_11 = r9 := e9
    subst e9
    replace hP := x_keep hP hk1
    clear hFc hk1 hz1 hvm hB ht
    refine lv_if_eq (tgt := 20) hx hb d_Model_joined_11 (by decide) (fun c_12 => ?_) (fun c_12 => ?_)
    · replace hm := if_t c_12 hm
      refine lv_aload_n hx hb d_Model_joined_20 rfl (lv_at hl 0 rfl) ?_
      refine lv_iconst (v := 0) hx hb d_Model_joined_21 (by decide) ?_
      refine va_put (D := (dC, dI)) (ci := 12) (v := .int 0) (ty := .int) (C := R_Model) (T := F_Model) (N := 127) hx hb htt iw_Model t_Model t_Model_ok n_Model hown hK hP hD hS 0 yo_12 rfl 25 (Nat.le_of_ble_eq_true rfl) (htt _ lk_Model_108) (fun _ h9 => h9) rfl (by decide +kernel) rfl rfl yl_25 d_Model_joined_22 (fun H locs hP hD hS => ?_)
      obtain ⟨i_13, ei_13⟩ : ∃ y9 : Nat → Int32, y9 = upd i 25 0 := ⟨_, rfl⟩
      replace hm := ob1_at ei_13 hm
      obtain ⟨hP, hD⟩ := yw_25 ei_13 hP hD
      refine lv_aload_n hx hb d_Model_joined_25 rfl (lv_at hl 0 rfl) ?_
      refine lv_lload_n hx hb d_Model_joined_26 rfl (lv_at hl 1 rfl) ?_
      obtain ⟨i_15, j_16, a_17, b_18, r_19, h_14, hm⟩ := om_some hm
      have hFc := x_free hD hS hA
      refine va_callv (va_runV (As := [.long v1]) (rest := []) ⟨hx, hb, hml, hown, hts⟩ (x_Model_sayFlat l dC dI cI cJ cB adK adV adA h v H.size n h_14) (cwV 1 hts (tw_GV tw_cons cw_Model_sayFlat lk_Model_124 in_Model_sayFlat sel_Model_sayFlat ini_Model) rfl rfl rfl ⟨rfl, hd_Model_sayFlat⟩ ⟨Nat.le_of_ble_eq_true rfl, Nat.le_of_ble_eq_true rfl⟩) (ypV hK hP hD hS hE hFc yo_12 rfl) rfl rfl hl.1 rfl (lv_room (Nat.le_of_ble_eq_true rfl)) d_Model_joined_27 ⟨Nat.le_of_ble_eq_true rfl, Nat.le_of_ble_eq_true rfl⟩) hS (fun q _ h => hFc q h) hFc (fun u9 t9 H locs ht hvm e9 hB hz1 hk1 hS => ?_)
      obtain ⟨hP, hD⟩ := y_aft hB ht hFc
      clear hFc hk1 hz1 hvm hB ht
      refine lv_aload_n hx hb d_Model_joined_30 rfl (lv_at hl 0 rfl) ?_
      refine lv_lload_n hx hb d_Model_joined_31 rfl (lv_at hl 2 rfl) ?_
      obtain ⟨i_21, j_22, a_23, b_24, r_25, h_20, hm⟩ := om_some hm
      have hFc := x_free hD hS hA
      refine va_callv (va_runV (As := [.long v3]) (rest := []) ⟨hx, hb, hml, hown, hts⟩ (x_Model_sayFlat l dC dI cI cJ cB adK adV adA h v H.size n h_20) (cwV 1 hts (tw_GV tw_cons cw_Model_sayFlat lk_Model_124 in_Model_sayFlat sel_Model_sayFlat ini_Model) rfl rfl rfl ⟨rfl, hd_Model_sayFlat⟩ ⟨Nat.le_of_ble_eq_true rfl, Nat.le_of_ble_eq_true rfl⟩) (ypV hK hP hD hS hE hFc yo_12 rfl) rfl rfl hl.1 rfl (lv_room (Nat.le_of_ble_eq_true rfl)) d_Model_joined_32 ⟨Nat.le_of_ble_eq_true rfl, Nat.le_of_ble_eq_true rfl⟩) hS (fun q _ h => hFc q h) hFc (fun u9 t9 H locs ht hvm e9 hB hz1 hk1 hS => ?_)
      obtain ⟨hP, hD⟩ := y_aft hB ht hFc
      clear hFc hk1 hz1 hvm hB ht
      refine lv_aload_n hx hb d_Model_joined_35 rfl (lv_at hl 0 rfl) ?_
      refine lv_aload_n hx hb d_Model_joined_36 rfl (lv_at hl 0 rfl) ?_
      refine va_get (D := (dC, dI)) (ci := 12) (v := .ref ((v 24))) (C := R_Model) (T := F_Model) (N := 127) hx hb htt iw_Model hown hK hP 0 yo_12 rfl 24 (Nat.le_of_ble_eq_true rfl) (htt _ lk_Model_105) (fun _ h9 => h9) yg_24 d_Model_joined_37 ?_
      refine lv_iconst (v := 0) hx hb d_Model_joined_40 (by decide) ?_
      refine lv_aload_n hx hb d_Model_joined_41 rfl (lv_at hl 0 rfl) ?_
      refine va_get (D := (dC, dI)) (ci := 12) (v := .int (i_21 25)) (C := R_Model) (T := F_Model) (N := 127) hx hb htt iw_Model hown hK hP 0 yo_12 rfl 25 (Nat.le_of_ble_eq_true rfl) (htt _ lk_Model_108) (fun _ h9 => h9) yg_25 d_Model_joined_42 ?_
      obtain ⟨i_27, j_28, a_29, b_30, r_31, h_26, hm⟩ := om_some hm
      have hFc := x_free hD hS hA
      refine va_calli (va_runV (As := [.ref ((v 24)), .int 0, .int (i_21 25)]) (rest := []) ⟨hx, hb, hml, hown, hts⟩ (x_Model_asNumber_v24 l dC dI cI cJ cB adK adV adA h v H.size n h_26) (cwV 3 hts (tw_GV tw_cons cw_Model_asNumber lk_Model_447 in_Model_asNumber sel_Model_asNumber ini_Model) rfl rfl rfl ⟨rfl, hd_Model_asNumber⟩ ⟨Nat.le_of_ble_eq_true rfl, Nat.le_of_ble_eq_true rfl⟩) (ypV hK hP hD hS hE hFc yo_12 rfl) rfl rfl hl.1 rfl (lv_room (Nat.le_of_ble_eq_true rfl)) d_Model_joined_45 ⟨Nat.le_of_ble_eq_true rfl, Nat.le_of_ble_eq_true rfl⟩) hS (fun q _ h => hFc q h) hFc (fun r9 u9 t9 H locs ht hvm e9 hB hz1 hk1 hS => ?_)
      have e9 : r_31 = r9 := e9
      subst e9
      obtain ⟨hP, hD⟩ := y_aft hB ht hFc
      clear hFc hk1 hz1 hvm hB ht
      refine lv_istore (lv' := [(5, .int r_31), (0, .ref h), (1, .long v1), (3, .long v3)]) hx hb d_Model_joined_48 hl (by decide) rfl (fun ls hl => ?_)
      refine lv_iload hx hb d_Model_joined_50 (lv_at hl 0 rfl) ?_
      refine lv_iconst (v := 2) hx hb d_Model_joined_52 (by decide) ?_
      refine lv_icmp_ne (tgt := 63) hx hb d_Model_joined_53 (by decide) (fun c_32 => ?_) (fun c_32 => ?_)
      · replace hm := if_f c_32 hm
        refine lv_aload_n hx hb d_Model_joined_63 rfl (lv_at hl 1 rfl) ?_
        refine va_get (D := (dC, dI)) (ci := 12) (v := .int (i_27 28)) (C := R_Model) (T := F_Model) (N := 127) hx hb htt iw_Model hown hK hP 0 yo_12 rfl 28 (Nat.le_of_ble_eq_true rfl) (htt _ lk_Model_146) (fun _ h9 => h9) yg_28 d_Model_joined_64 ?_
        refine lv_topi (fun x_33 ex_33 => ?_)
        replace hm := ob1_at ex_33 hm
        refine lv_istore (lv' := [(6, .int x_33), (5, .int r_31), (0, .ref h), (1, .long v1), (3, .long v3)]) hx hb d_Model_joined_67 hl (by decide) rfl (fun ls hl => ?_)
        refine lv_iload hx hb d_Model_joined_69 (lv_at hl 1 rfl) ?_
        refine lv_iconst (v := 1) hx hb d_Model_joined_71 (by decide) ?_
        refine lv_icmp_ne (tgt := 109) hx hb d_Model_joined_72 (by decide) (fun c_34 => ?_) (fun c_34 => ?_)
        · replace hm := if_f c_34 hm
          refine lv_aload_n hx hb d_Model_joined_109 rfl (lv_at hl 2 rfl) ?_
          refine va_get (D := (dC, dI)) (ci := 12) (v := .int (i_27 25)) (C := R_Model) (T := F_Model) (N := 127) hx hb htt iw_Model hown hK hP 0 yo_12 rfl 25 (Nat.le_of_ble_eq_true rfl) (htt _ lk_Model_108) (fun _ h9 => h9) yg_25 d_Model_joined_110 ?_
          refine lv_bipush (v := 30) hx hb d_Model_joined_113 (by decide) ?_
          refine lv_icmp_le (tgt := 125) hx hb d_Model_joined_115 (by decide) (fun c_35 => ?_) (fun c_35 => ?_)
          · replace hm := if_t c_35 hm
            refine lv_aload_n hx hb d_Model_joined_125 rfl (lv_at hl 2 rfl) ?_
            refine lv_aload_n hx hb d_Model_joined_126 rfl (lv_at hl 2 rfl) ?_
            refine va_get (D := (dC, dI)) (ci := 12) (v := .int (i_27 25)) (C := R_Model) (T := F_Model) (N := 127) hx hb htt iw_Model hown hK hP 0 yo_12 rfl 25 (Nat.le_of_ble_eq_true rfl) (htt _ lk_Model_108) (fun _ h9 => h9) yg_25 d_Model_joined_127 ?_
            obtain ⟨i_37, j_38, a_39, b_40, r_41, h_36, hm⟩ := om_some hm
            have hFc := x_free hD hS hA
            refine va_calli (va_runV (As := [.int (i_27 25)]) (rest := []) ⟨hx, hb, hml, hown, hts⟩ (x_Model_makes l dC dI cI cJ cB adK adV adA h v H.size n h_36) (cwV 1 hts (tw_GV tw_cons cw_Model_makes lk_Model_665 in_Model_makes sel_Model_makes ini_Model) rfl rfl rfl ⟨rfl, hd_Model_makes⟩ ⟨Nat.le_of_ble_eq_true rfl, Nat.le_of_ble_eq_true rfl⟩) (ypV hK hP hD hS hE hFc yo_12 rfl) rfl rfl hl.1 rfl (lv_room (Nat.le_of_ble_eq_true rfl)) d_Model_joined_130 ⟨Nat.le_of_ble_eq_true rfl, Nat.le_of_ble_eq_true rfl⟩) hS (fun q _ h => hFc q h) hFc (fun r9 u9 t9 H locs ht hvm e9 hB hz1 hk1 hS => ?_)
            have e9 : r_41 = r9 := e9
            subst e9
            obtain ⟨hP, hD⟩ := y_aft hB ht hFc
            clear hFc hk1 hz1 hvm hB ht
            refine lv_if_ne (tgt := 140) hx hb d_Model_joined_133 (by decide) (fun c_42 => ?_) (fun c_42 => ?_)
            · replace hm := if_f c_42 hm
              refine lv_aload_n hx hb d_Model_joined_140 rfl (lv_at hl 2 rfl) ?_
              refine va_get (D := (dC, dI)) (ci := 12) (v := .ref ((v 24))) (C := R_Model) (T := F_Model) (N := 127) hx hb htt iw_Model hown hK hP 0 yo_12 rfl 24 (Nat.le_of_ble_eq_true rfl) (htt _ lk_Model_105) (fun _ h9 => h9) yg_24 d_Model_joined_141 ?_
              refine lv_iconst (v := 0) hx hb d_Model_joined_144 (by decide) ?_
              refine lv_aload_n hx hb d_Model_joined_145 rfl (lv_at hl 2 rfl) ?_
              refine va_get (D := (dC, dI)) (ci := 12) (v := .ref ((v 1))) (C := R_Model) (T := F_Model) (N := 127) hx hb htt iw_Model hown hK hP 0 yo_12 rfl 1 (Nat.le_of_ble_eq_true rfl) (htt _ lk_Model_67) (fun _ h9 => h9) yg_1 d_Model_joined_146 ?_
              refine lv_aload_n hx hb d_Model_joined_149 rfl (lv_at hl 2 rfl) ?_
              refine va_get (D := (dC, dI)) (ci := 12) (v := .int (i_37 18)) (C := R_Model) (T := F_Model) (N := 127) hx hb htt iw_Model hown hK hP 0 yo_12 rfl 18 (Nat.le_of_ble_eq_true rfl) (htt _ lk_Model_372) (fun _ h9 => h9) yg_18 d_Model_joined_150 ?_
              refine lv_aload_n hx hb d_Model_joined_153 rfl (lv_at hl 2 rfl) ?_
              refine va_get (D := (dC, dI)) (ci := 12) (v := .int (i_37 25)) (C := R_Model) (T := F_Model) (N := 127) hx hb htt iw_Model hown hK hP 0 yo_12 rfl 25 (Nat.le_of_ble_eq_true rfl) (htt _ lk_Model_108) (fun _ h9 => h9) yg_25 d_Model_joined_154 ?_
              obtain ⟨h_43a, h_43b, h_43c, h_43d, h_43e, hm⟩ := cy_some hm
              obtain ⟨h_43f, hm⟩ := cyb_some hm
              refine va_copyi hx hb (by rw [hml]; exact hl.1.symm) hown (htt _ lk_Model_334) (htt _ na_arraycopy) (htt _ st_arraycopy) (htt _ ini_System) hK hP hD hS 20 1 2 2 (ty := .byte) ya_24 ya_1 rfl rfl rfl h_43a h_43b h_43c h_43d h_43e h_43f (Nat.le_of_ble_eq_true rfl) (Nat.le_of_ble_eq_true rfl) d_Model_joined_157 (fun H locs hP hD hS => ?_)
              obtain ⟨a_44, ea_44⟩ : ∃ y9 : Nat → Nat → Int32, y9 = updA a_39 1 (va_cpy (a_39 24) (a_39 1) (0 : Int32).toNatClampNeg (i_37 18).toNatClampNeg (i_37 25).toNatClampNeg) := ⟨_, rfl⟩
              replace hm := ob1_at ea_44 hm
              obtain ⟨hP, hD⟩ := yv_1 ea_44 hP hD
              refine lv_aload_n hx hb d_Model_joined_160 rfl (lv_at hl 2 rfl) ?_
              refine lv_aload_n hx hb d_Model_joined_161 rfl (lv_at hl 2 rfl) ?_
              refine va_get (D := (dC, dI)) (ci := 12) (v := .int (i_37 18)) (C := R_Model) (T := F_Model) (N := 127) hx hb htt iw_Model hown hK hP 0 yo_12 rfl 18 (Nat.le_of_ble_eq_true rfl) (htt _ lk_Model_372) (fun _ h9 => h9) yg_18 d_Model_joined_162 ?_
              refine lv_aload_n hx hb d_Model_joined_165 rfl (lv_at hl 2 rfl) ?_
              refine va_get (D := (dC, dI)) (ci := 12) (v := .int (i_37 25)) (C := R_Model) (T := F_Model) (N := 127) hx hb htt iw_Model hown hK hP 0 yo_12 rfl 25 (Nat.le_of_ble_eq_true rfl) (htt _ lk_Model_108) (fun _ h9 => h9) yg_25 d_Model_joined_166 ?_
              obtain ⟨i_46, j_47, a_48, b_49, r_50, h_45, hm⟩ := om_some hm
              have hFc := x_free hD hS hA
              refine va_calli (va_runV (As := [.int (i_37 18), .int (i_37 25)]) (rest := []) ⟨hx, hb, hml, hown, hts⟩ (x_Model_newWord l dC dI cI cJ cB adK adV adA h v H.size n h_45) (cwV 2 hts (tw_GV tw_cons cw_Model_newWord lk_Model_454 in_Model_newWord sel_Model_newWord ini_Model) rfl rfl rfl ⟨rfl, hd_Model_newWord⟩ ⟨Nat.le_of_ble_eq_true rfl, Nat.le_of_ble_eq_true rfl⟩) (ypV hK hP hD hS hE hFc yo_12 rfl) rfl rfl hl.1 rfl (lv_room (Nat.le_of_ble_eq_true rfl)) d_Model_joined_169 ⟨Nat.le_of_ble_eq_true rfl, Nat.le_of_ble_eq_true rfl⟩) hS (fun q _ h => hFc q h) hFc (fun r9 u9 t9 H locs ht hvm e9 hB hz1 hk1 hS => ?_)
              have e9 : r_50 = r9 := e9
              subst e9
              obtain ⟨hP, hD⟩ := y_aft hB ht hFc
              clear hFc hk1 hz1 hvm hB ht
              obtain ⟨r_52, h_51, hm⟩ := ob0_some hm
              have hFc := x_free0 hS hA
              refine va_calll (va_runS (As := [.int r_50]) (rest := []) ⟨hx, hb, hml, hown, hts⟩ (x_Model_wordValue l H.size n h_51) (va_cwS 1 hts (tw_GS tw_cons cw_Model_wordValue lk_Model_396 st_Model_wordValue ini_Model) rfl rfl rfl hd_Model_wordValue ⟨Nat.le_of_ble_eq_true rfl, Nat.le_of_ble_eq_true rfl⟩) xpS0 rfl rfl hl.1 rfl (lv_room (Nat.le_of_ble_eq_true rfl)) d_Model_joined_172 ⟨Nat.le_of_ble_eq_true rfl, Nat.le_of_ble_eq_true rfl⟩) hS (fun q _ h => hFc q h) hFc (fun r9 u9 t9 H locs ht hvm e9 hB hz1 hk1 hS => ?_)
              have e9 : r_52 = r9 := e9
              subst e9
              replace hP := x_keep hP hk1
              clear hFc hk1 hz1 hvm hB ht
              refine lv_lstore (lv' := [(7, .long r_52), (6, .int x_33), (5, .int r_31), (0, .ref h), (1, .long v1), (3, .long v3)]) hx hb d_Model_joined_175 hl (by decide) rfl (fun ls hl => ?_)
              refine lv_aload_n hx hb d_Model_joined_177 rfl (lv_at hl 3 rfl) ?_
              refine lv_dup hx hb d_Model_joined_178 rfl ?_
              refine va_get (D := (dC, dI)) (ci := 12) (v := .int (i_46 18)) (C := R_Model) (T := F_Model) (N := 127) hx hb htt iw_Model hown hK hP 0 yo_12 rfl 18 (Nat.le_of_ble_eq_true rfl) (htt _ lk_Model_372) (fun _ h9 => h9) yg_18 d_Model_joined_179 ?_
              refine lv_aload_n hx hb d_Model_joined_182 rfl (lv_at hl 3 rfl) ?_
              refine va_get (D := (dC, dI)) (ci := 12) (v := .int (i_46 25)) (C := R_Model) (T := F_Model) (N := 127) hx hb htt iw_Model hown hK hP 0 yo_12 rfl 25 (Nat.le_of_ble_eq_true rfl) (htt _ lk_Model_108) (fun _ h9 => h9) yg_25 d_Model_joined_183 ?_
              refine lv_iadd hx hb d_Model_joined_186 ?_
              refine lv_topi (fun x_53 ex_53 => ?_)
              replace hm := ob1_at ex_53 hm
              refine va_put (D := (dC, dI)) (ci := 12) (v := .int x_53) (ty := .int) (C := R_Model) (T := F_Model) (N := 127) hx hb htt iw_Model t_Model t_Model_ok n_Model hown hK hP hD hS 0 yo_12 rfl 18 (Nat.le_of_ble_eq_true rfl) (htt _ lk_Model_372) (fun _ h9 => h9) rfl (by decide +kernel) rfl rfl yl_18 d_Model_joined_187 (fun H locs hP hD hS => ?_)
              obtain ⟨i_54, ei_54⟩ : ∃ y9 : Nat → Int32, y9 = upd i_46 18 x_53 := ⟨_, rfl⟩
              replace hm := ob1_at ei_54 hm
              obtain ⟨hP, hD⟩ := yw_18 ei_54 hP hD
              refine lv_lload hx hb d_Model_joined_190 (lv_at hl 0 rfl) ?_
              obtain ⟨e1i, e1j, e1a, e1b, e3⟩ := re4m hm
              obtain ⟨hP, hD⟩ := y_eq e1i e1j e1a e1b hP hD
              exact W.lret hx hb hr (fun t9 ht hW => ⟨⟨_, (), rfl, e3.symm, by rw [ht]; exact hP, hD⟩, hS.F ht⟩) hS.2.2 d_Model_joined_192
            · replace hm := if_t c_42 hm
              refine lv_ldc2 (v := 3) hx hb hown (htt _ lk_Model_7) d_Model_joined_136 ?_
              obtain ⟨e1i, e1j, e1a, e1b, e3⟩ := re4m hm
              obtain ⟨hP, hD⟩ := y_eq e1i e1j e1a e1b hP hD
              exact W.lret hx hb hr (fun t9 ht hW => ⟨⟨_, (), rfl, e3.symm, by rw [ht]; exact hP, hD⟩, hS.F ht⟩) hS.2.2 d_Model_joined_139
          · replace hm := if_f c_35 hm
            refine lv_aload_n hx hb d_Model_joined_118 rfl (lv_at hl 2 rfl) ?_
            refine lv_bipush (v := 8) hx hb d_Model_joined_119 (by decide) ?_
            obtain ⟨i_56, j_57, a_58, b_59, r_60, h_55, hm⟩ := om_some hm
            have hFc := x_free hD hS hA
            refine va_calll (va_runV (As := [.int 8]) (rest := []) ⟨hx, hb, hml, hown, hts⟩ (x_Model_fails l dC dI cI cJ cB adK adV adA h v H.size n h_55) (cwV 1 hts (tw_GV tw_cons cw_Model_fails lk_Model_596 in_Model_fails sel_Model_fails ini_Model) rfl rfl rfl ⟨rfl, hd_Model_fails⟩ ⟨Nat.le_of_ble_eq_true rfl, Nat.le_of_ble_eq_true rfl⟩) (ypV hK hP hD hS hE hFc yo_12 rfl) rfl rfl hl.1 rfl (lv_room (Nat.le_of_ble_eq_true rfl)) d_Model_joined_121 ⟨Nat.le_of_ble_eq_true rfl, Nat.le_of_ble_eq_true rfl⟩) hS (fun q _ h => hFc q h) hFc (fun r9 u9 t9 H locs ht hvm e9 hB hz1 hk1 hS => ?_)
            have e9 : r_60 = r9 := e9
            subst e9
            obtain ⟨hP, hD⟩ := y_aft hB ht hFc
            clear hFc hk1 hz1 hvm hB ht
            obtain ⟨e1i, e1j, e1a, e1b, e3⟩ := re4m hm
            obtain ⟨hP, hD⟩ := y_eq e1i e1j e1a e1b hP hD
            exact W.lret hx hb hr (fun t9 ht hW => ⟨⟨_, (), rfl, e3.symm, by rw [ht]; exact hP, hD⟩, hS.F ht⟩) hS.2.2 d_Model_joined_124
        · replace hm := if_t c_34 hm
          refine lv_aload_n hx hb d_Model_joined_75 rfl (lv_at hl 2 rfl) ?_
          refine lv_iconst (v := 0) hx hb d_Model_joined_76 (by decide) ?_
          refine va_put (D := (dC, dI)) (ci := 12) (v := .int 0) (ty := .int) (C := R_Model) (T := F_Model) (N := 127) hx hb htt iw_Model t_Model t_Model_ok n_Model hown hK hP hD hS 0 yo_12 rfl 25 (Nat.le_of_ble_eq_true rfl) (htt _ lk_Model_108) (fun _ h9 => h9) rfl (by decide +kernel) rfl rfl yl_25 d_Model_joined_77 (fun H locs hP hD hS => ?_)
          obtain ⟨i_61, ei_61⟩ : ∃ y9 : Nat → Int32, y9 = upd i_27 25 0 := ⟨_, rfl⟩
          replace hm := ob1_at ei_61 hm
          obtain ⟨hP, hD⟩ := yw_25 ei_61 hP hD
          refine lv_aload_n hx hb d_Model_joined_80 rfl (lv_at hl 2 rfl) ?_
          refine lv_iload hx hb d_Model_joined_81 (lv_at hl 0 rfl) ?_
          obtain ⟨i_63, j_64, a_65, b_66, r_67, h_62, hm⟩ := om_some hm
          have hFc := x_free hD hS hA
          refine va_callv (va_runV (As := [.int x_33]) (rest := []) ⟨hx, hb, hml, hown, hts⟩ (x_Model_sayNumber l dC dI cI cJ cB adK adV adA h v H.size n h_62) (cwV 1 hts (tw_GV tw_cons cw_Model_sayNumber lk_Model_121 in_Model_sayNumber sel_Model_sayNumber ini_Model) rfl rfl rfl ⟨rfl, hd_Model_sayNumber⟩ ⟨Nat.le_of_ble_eq_true rfl, Nat.le_of_ble_eq_true rfl⟩) (ypV hK hP hD hS hE hFc yo_12 rfl) rfl rfl hl.1 rfl (lv_room (Nat.le_of_ble_eq_true rfl)) d_Model_joined_83 ⟨Nat.le_of_ble_eq_true rfl, Nat.le_of_ble_eq_true rfl⟩) hS (fun q _ h => hFc q h) hFc (fun u9 t9 H locs ht hvm e9 hB hz1 hk1 hS => ?_)
          obtain ⟨hP, hD⟩ := y_aft hB ht hFc
          clear hFc hk1 hz1 hvm hB ht
          refine lv_aload_n hx hb d_Model_joined_86 rfl (lv_at hl 2 rfl) ?_
          refine lv_aload_n hx hb d_Model_joined_87 rfl (lv_at hl 2 rfl) ?_
          refine va_get (D := (dC, dI)) (ci := 12) (v := .int (i_63 25)) (C := R_Model) (T := F_Model) (N := 127) hx hb htt iw_Model hown hK hP 0 yo_12 rfl 25 (Nat.le_of_ble_eq_true rfl) (htt _ lk_Model_108) (fun _ h9 => h9) yg_25 d_Model_joined_88 ?_
          obtain ⟨i_69, j_70, a_71, b_72, r_73, h_68, hm⟩ := om_some hm
          have hFc := x_free hD hS hA
          refine va_calli (va_runV (As := [.int (i_63 25)]) (rest := []) ⟨hx, hb, hml, hown, hts⟩ (x_Model_makes l dC dI cI cJ cB adK adV adA h v H.size n h_68) (cwV 1 hts (tw_GV tw_cons cw_Model_makes lk_Model_665 in_Model_makes sel_Model_makes ini_Model) rfl rfl rfl ⟨rfl, hd_Model_makes⟩ ⟨Nat.le_of_ble_eq_true rfl, Nat.le_of_ble_eq_true rfl⟩) (ypV hK hP hD hS hE hFc yo_12 rfl) rfl rfl hl.1 rfl (lv_room (Nat.le_of_ble_eq_true rfl)) d_Model_joined_91 ⟨Nat.le_of_ble_eq_true rfl, Nat.le_of_ble_eq_true rfl⟩) hS (fun q _ h => hFc q h) hFc (fun r9 u9 t9 H locs ht hvm e9 hB hz1 hk1 hS => ?_)
          have e9 : r_73 = r9 := e9
          subst e9
          obtain ⟨hP, hD⟩ := y_aft hB ht hFc
          clear hFc hk1 hz1 hvm hB ht
          refine lv_if_eq (tgt := 105) hx hb d_Model_joined_94 (by decide) (fun c_74 => ?_) (fun c_74 => ?_)
          · replace hm := if_t c_74 hm
            refine lv_ldc2 (v := 3) hx hb hown (htt _ lk_Model_7) d_Model_joined_105 ?_
            obtain ⟨e1i, e1j, e1a, e1b, e3⟩ := re4m hm
            obtain ⟨hP, hD⟩ := y_eq e1i e1j e1a e1b hP hD
            exact W.lret hx hb hr (fun t9 ht hW => ⟨⟨_, (), rfl, e3.symm, by rw [ht]; exact hP, hD⟩, hS.F ht⟩) hS.2.2 d_Model_joined_108
          · replace hm := if_f c_74 hm
            refine lv_iload hx hb d_Model_joined_97 (lv_at hl 0 rfl) ?_
            obtain ⟨r_76, h_75, hm⟩ := ob0_some hm
            have hFc := x_free0 hS hA
            refine va_calll (va_runS (As := [.int x_33]) (rest := []) ⟨hx, hb, hml, hown, hts⟩ (x_Model_number l H.size n h_75) (va_cwS 1 hts (tw_GS tw_cons cw_Model_number lk_Model_451 st_Model_number ini_Model) rfl rfl rfl hd_Model_number ⟨Nat.le_of_ble_eq_true rfl, Nat.le_of_ble_eq_true rfl⟩) xpS0 rfl rfl hl.1 rfl (lv_room (Nat.le_of_ble_eq_true rfl)) d_Model_joined_99 ⟨Nat.le_of_ble_eq_true rfl, Nat.le_of_ble_eq_true rfl⟩) hS (fun q _ h => hFc q h) hFc (fun r9 u9 t9 H locs ht hvm e9 hB hz1 hk1 hS => ?_)
            have e9 : r_76 = r9 := e9
            subst e9
            replace hP := x_keep hP hk1
            clear hFc hk1 hz1 hvm hB ht
            refine lv_goto (tgt := 108) hx hb d_Model_joined_102 (by decide) ?_
            obtain ⟨e1i, e1j, e1a, e1b, e3⟩ := re4m hm
            obtain ⟨hP, hD⟩ := y_eq e1i e1j e1a e1b hP hD
            exact W.lret hx hb hr (fun t9 ht hW => ⟨⟨_, (), rfl, e3.symm, by rw [ht]; exact hP, hD⟩, hS.F ht⟩) hS.2.2 d_Model_joined_108
      · replace hm := if_t c_32 hm
        refine lv_aload_n hx hb d_Model_joined_56 rfl (lv_at hl 1 rfl) ?_
        refine lv_bipush (v := 9) hx hb d_Model_joined_57 (by decide) ?_
        obtain ⟨i_78, j_79, a_80, b_81, r_82, h_77, hm⟩ := om_some hm
        have hFc := x_free hD hS hA
        refine va_calll (va_runV (As := [.int 9]) (rest := []) ⟨hx, hb, hml, hown, hts⟩ (x_Model_fails l dC dI cI cJ cB adK adV adA h v H.size n h_77) (cwV 1 hts (tw_GV tw_cons cw_Model_fails lk_Model_596 in_Model_fails sel_Model_fails ini_Model) rfl rfl rfl ⟨rfl, hd_Model_fails⟩ ⟨Nat.le_of_ble_eq_true rfl, Nat.le_of_ble_eq_true rfl⟩) (ypV hK hP hD hS hE hFc yo_12 rfl) rfl rfl hl.1 rfl (lv_room (Nat.le_of_ble_eq_true rfl)) d_Model_joined_59 ⟨Nat.le_of_ble_eq_true rfl, Nat.le_of_ble_eq_true rfl⟩) hS (fun q _ h => hFc q h) hFc (fun r9 u9 t9 H locs ht hvm e9 hB hz1 hk1 hS => ?_)
        have e9 : r_82 = r9 := e9
        subst e9
        obtain ⟨hP, hD⟩ := y_aft hB ht hFc
        clear hFc hk1 hz1 hvm hB ht
        obtain ⟨e1i, e1j, e1a, e1b, e3⟩ := re4m hm
        obtain ⟨hP, hD⟩ := y_eq e1i e1j e1a e1b hP hD
        exact W.lret hx hb hr (fun t9 ht hW => ⟨⟨_, (), rfl, e3.symm, by rw [ht]; exact hP, hD⟩, hS.F ht⟩) hS.2.2 d_Model_joined_62
    · replace hm := if_f c_12 hm
      refine lv_aload_n hx hb d_Model_joined_14 rfl (lv_at hl 0 rfl) ?_
      refine lv_iconst (v := 3) hx hb d_Model_joined_15 (by decide) ?_
      obtain ⟨i_84, j_85, a_86, b_87, r_88, h_83, hm⟩ := om_some hm
      have hFc := x_free hD hS hA
      refine va_calll (va_runV (As := [.int 3]) (rest := []) ⟨hx, hb, hml, hown, hts⟩ (x_Model_fails l dC dI cI cJ cB adK adV adA h v H.size n h_83) (cwV 1 hts (tw_GV tw_cons cw_Model_fails lk_Model_596 in_Model_fails sel_Model_fails ini_Model) rfl rfl rfl ⟨rfl, hd_Model_fails⟩ ⟨Nat.le_of_ble_eq_true rfl, Nat.le_of_ble_eq_true rfl⟩) (ypV hK hP hD hS hE hFc yo_12 rfl) rfl rfl hl.1 rfl (lv_room (Nat.le_of_ble_eq_true rfl)) d_Model_joined_16 ⟨Nat.le_of_ble_eq_true rfl, Nat.le_of_ble_eq_true rfl⟩) hS (fun q _ h => hFc q h) hFc (fun r9 u9 t9 H locs ht hvm e9 hB hz1 hk1 hS => ?_)
      have e9 : r_88 = r9 := e9
      subst e9
      obtain ⟨hP, hD⟩ := y_aft hB ht hFc
      clear hFc hk1 hz1 hvm hB ht
      obtain ⟨e1i, e1j, e1a, e1b, e3⟩ := re4m hm
      obtain ⟨hP, hD⟩ := y_eq e1i e1j e1a e1b hP hD
      exact W.lret hx hb hr (fun t9 ht hW => ⟨⟨_, (), rfl, e3.symm, by rw [ht]; exact hP, hD⟩, hS.F ht⟩) hS.2.2 d_Model_joined_19

def m_Model_make_b131 (n : Nat) (i : Nat → Int32) (j : Nat → Int64) (a : Nat → Nat → Int32) (b : Nat → Nat → Int64) (v3 : Int64) (v7 : Int32) : Option ((Nat → Int32) × (Nat → Int64) × (Nat → Nat → Int32) × (Nat → Nat → Int64) × Int64) := ck v7 64 (ob1 (svl b 35 v7.toNatClampNeg v3 : Nat → Nat → Int64) (fun b_2 => some (i, j, a, b_2, 3)))
set_option maxHeartbeats 4000000 in
set_option maxRecDepth 100000 in
theorem lb_Model_make_131 (l : Launch) (dC : Nat → ClassId) (dI : Nat → Nat → Nat) (cI cJ cB : ClassId) (adK adV adA : Nat → Nat) (h : Nat) (v : Nat → Nat) (n : Nat) {p : Program} {e : Env} {s : State} {m : MethodId} {args : Array Value} {below : List Frame} {meth : Method} {c : Code} {A : Nat → Prop} (hx : p.tables.exec = Jvm.exec) (hb : c.code = b_Model_make) (hml : c.maxLocals = 8) (hown : s.vm.findClass R_Model = some m.cls) (hts : ∀ w ∈ w_Model_make, w.before args s = true) (hK : va_K (dC, dI) classes [(cI, .int), (cJ, .long), (cB, .byte)] s) (hE : tw_E adK adV adA A s s.heap) (hA : ∀ q : Nat, s.heap.size ≤ q → A q) (hr : meth.sig.returnType = (some .long)) (hlocks : meth.locks = false) {i2 : Nat → Int32} {j2 : Nat → Int64} {a2 : Nat → Nat → Int32} {b2 : Nat → Nat → Int64} {r2 : Int64} (i : Nat → Int32) (j : Nat → Int64) (a : Nat → Nat → Int32) (b : Nat → Nat → Int64) (v3 : Int64) (v7 : Int32) (hm : m_Model_make_b131 n i j a b v3 v7 = some (i2, j2, a2, b2, r2)) : ∀ (H : Heap) (locs : List Loc) (ls : Array Slot), va_P (dC, dI) classes (MW cI cJ cB h v i j a b) H → va_D A (MW cI cJ cB h v i j a b) → va_S A s.heap H locs → lv_has ls 8 [(0, .ref h), (3, .long v3), (7, .int v7)] → W p l e ({ frames := 3, cells := 0, slots := 0, locals := 64 } : Room) s m args below meth c H locs 0 0 (MQ below (va_Ql (xR r2) (yB dC dI cI cJ cB h v i2 j2 a2 b2 A) A) args s 0 0 A) (F0 m 131 ls []) := by
  have htt : ∀ w ∈ tw_T, w.before _ s = true := fun w h => hts w (List.mem_cons_of_mem _ h)
  intro H locs ls hP hD hS hl
  rw [m_Model_make_b131] at hm
  refine lv_aload_n hx hb d_Model_make_131 rfl (lv_at hl 0 rfl) ?_
  refine va_get (D := (dC, dI)) (ci := 12) (v := .ref ((v 35))) (C := R_Model) (T := F_Model) (N := 127) hx hb htt iw_Model hown hK hP 0 yo_12 rfl 35 (Nat.le_of_ble_eq_true rfl) (htt _ lk_Model_198) (fun _ h9 => h9) yg_35 d_Model_make_132 ?_
  refine lv_iload hx hb d_Model_make_135 (lv_at hl 2 rfl) ?_
  refine lv_lload_n hx hb d_Model_make_137 rfl (lv_at hl 1 rfl) ?_
  obtain ⟨h_1, hm⟩ := ck_some hm
  refine va_last hx hb hK hP hD hS 28 1 ya_35 rfl h_1 d_Model_make_138 (fun H locs hP hD hS => ?_)
  obtain ⟨b_2, eb_2⟩ : ∃ y9 : Nat → Nat → Int64, y9 = svl b 35 v7.toNatClampNeg v3 := ⟨_, rfl⟩
  replace hm := ob1_at eb_2 hm
  obtain ⟨hP, hD⟩ := yv_35 eb_2 hP hD
  refine lv_ldc2 (v := 3) hx hb hown (htt _ lk_Model_7) d_Model_make_139 ?_
  obtain ⟨e1i, e1j, e1a, e1b, e3⟩ := re4m hm
  obtain ⟨hP, hD⟩ := y_eq e1i e1j e1a e1b hP hD
  exact W.lret hx hb hr (fun t9 ht hW => ⟨⟨_, (), rfl, e3.symm, by rw [ht]; exact hP, hD⟩, hS.F ht⟩) hS.2.2 d_Model_make_142
def m_Model_make_b104 (n : Nat) (i : Nat → Int32) (j : Nat → Int64) (a : Nat → Nat → Int32) (b : Nat → Nat → Int64) (v3 : Int64) (v5 : Int32) (v6 : Int32) (s0 : Int32) : Option ((Nat → Int32) × (Nat → Int64) × (Nat → Nat → Int32) × (Nat → Nat → Int64) × Int64) := if v6 = ((-1 : Int32)) then ck s0 64 (ob1 (sv a 34 s0.toNatClampNeg v5 : Nat → Nat → Int32) (fun a_3 => ob1 ((i 36) + 1 : Int32) (fun x_4 => ob1 (upd i 36 x_4 : Nat → Int32) (fun i_5 => m_Model_make_b131 n i_5 j a_3 b v3 s0)))) else m_Model_make_b131 n i j a b v3 s0
set_option maxHeartbeats 4000000 in
set_option maxRecDepth 100000 in
theorem lb_Model_make_104 (l : Launch) (dC : Nat → ClassId) (dI : Nat → Nat → Nat) (cI cJ cB : ClassId) (adK adV adA : Nat → Nat) (h : Nat) (v : Nat → Nat) (n : Nat) {p : Program} {e : Env} {s : State} {m : MethodId} {args : Array Value} {below : List Frame} {meth : Method} {c : Code} {A : Nat → Prop} (hx : p.tables.exec = Jvm.exec) (hb : c.code = b_Model_make) (hml : c.maxLocals = 8) (hown : s.vm.findClass R_Model = some m.cls) (hts : ∀ w ∈ w_Model_make, w.before args s = true) (hK : va_K (dC, dI) classes [(cI, .int), (cJ, .long), (cB, .byte)] s) (hE : tw_E adK adV adA A s s.heap) (hA : ∀ q : Nat, s.heap.size ≤ q → A q) (hr : meth.sig.returnType = (some .long)) (hlocks : meth.locks = false) {i2 : Nat → Int32} {j2 : Nat → Int64} {a2 : Nat → Nat → Int32} {b2 : Nat → Nat → Int64} {r2 : Int64} (i : Nat → Int32) (j : Nat → Int64) (a : Nat → Nat → Int32) (b : Nat → Nat → Int64) (v3 : Int64) (v5 : Int32) (v6 : Int32) (s0 : Int32) (hm : m_Model_make_b104 n i j a b v3 v5 v6 s0 = some (i2, j2, a2, b2, r2)) : ∀ (H : Heap) (locs : List Loc) (ls : Array Slot), va_P (dC, dI) classes (MW cI cJ cB h v i j a b) H → va_D A (MW cI cJ cB h v i j a b) → va_S A s.heap H locs → lv_has ls 8 [(0, .ref h), (3, .long v3), (5, .int v5), (6, .int v6)] → W p l e ({ frames := 3, cells := 0, slots := 0, locals := 64 } : Room) s m args below meth c H locs 0 0 (MQ below (va_Ql (xR r2) (yB dC dI cI cJ cB h v i2 j2 a2 b2 A) A) args s 0 0 A) (F0 m 104 ls [.int s0]) := by
  have htt : ∀ w ∈ tw_T, w.before _ s = true := fun w h => hts w (List.mem_cons_of_mem _ h)
  intro H locs ls hP hD hS hl
  rw [m_Model_make_b104] at hm
  refine lv_istore (lv' := [(7, .int s0), (0, .ref h), (3, .long v3), (5, .int v5), (6, .int v6)]) hx hb d_Model_make_104 hl (by decide) rfl (fun ls hl => ?_)
  refine lv_iload hx hb d_Model_make_106 (lv_at hl 4 rfl) ?_
  refine lv_iconst (v := -1) hx hb d_Model_make_108 (by decide) ?_
  refine lv_icmp_ne (tgt := 131) hx hb d_Model_make_109 (by decide) (fun c_1 => ?_) (fun c_1 => ?_)
  · replace hm := if_f c_1 hm
    exact lb_Model_make_131 l dC dI cI cJ cB adK adV adA h v n hx hb hml hown hts hK hE hA hr hlocks _ _ _ _ _ _ hm _ _ _ hP hD hS (lv_sub hl [1, 2, 0] rfl)
  · replace hm := if_t c_1 hm
    refine lv_aload_n hx hb d_Model_make_112 rfl (lv_at hl 1 rfl) ?_
    refine va_get (D := (dC, dI)) (ci := 12) (v := .ref ((v 34))) (C := R_Model) (T := F_Model) (N := 127) hx hb htt iw_Model hown hK hP 0 yo_12 rfl 34 (Nat.le_of_ble_eq_true rfl) (htt _ lk_Model_195) (fun _ h9 => h9) yg_34 d_Model_make_113 ?_
    refine lv_iload hx hb d_Model_make_116 (lv_at hl 0 rfl) ?_
    refine lv_iload hx hb d_Model_make_118 (lv_at hl 3 rfl) ?_
    obtain ⟨h_2, hm⟩ := ck_some hm
    refine va_iast hx hb hK hP hD hS 27 0 ya_34 rfl h_2 d_Model_make_120 (fun H locs hP hD hS => ?_)
    obtain ⟨a_3, ea_3⟩ : ∃ y9 : Nat → Nat → Int32, y9 = sv a 34 s0.toNatClampNeg v5 := ⟨_, rfl⟩
    replace hm := ob1_at ea_3 hm
    obtain ⟨hP, hD⟩ := yv_34 ea_3 hP hD
    refine lv_aload_n hx hb d_Model_make_121 rfl (lv_at hl 1 rfl) ?_
    refine lv_dup hx hb d_Model_make_122 rfl ?_
    refine va_get (D := (dC, dI)) (ci := 12) (v := .int (i 36)) (C := R_Model) (T := F_Model) (N := 127) hx hb htt iw_Model hown hK hP 0 yo_12 rfl 36 (Nat.le_of_ble_eq_true rfl) (htt _ lk_Model_350) (fun _ h9 => h9) yg_36 d_Model_make_123 ?_
    refine lv_iconst (v := 1) hx hb d_Model_make_126 (by decide) ?_
    refine lv_iadd hx hb d_Model_make_127 ?_
    refine lv_topi (fun x_4 ex_4 => ?_)
    replace hm := ob1_at ex_4 hm
    refine va_put (D := (dC, dI)) (ci := 12) (v := .int x_4) (ty := .int) (C := R_Model) (T := F_Model) (N := 127) hx hb htt iw_Model t_Model t_Model_ok n_Model hown hK hP hD hS 0 yo_12 rfl 36 (Nat.le_of_ble_eq_true rfl) (htt _ lk_Model_350) (fun _ h9 => h9) rfl (by decide +kernel) rfl rfl yl_36 d_Model_make_128 (fun H locs hP hD hS => ?_)
    obtain ⟨i_5, ei_5⟩ : ∃ y9 : Nat → Int32, y9 = upd i 36 x_4 := ⟨_, rfl⟩
    replace hm := ob1_at ei_5 hm
    obtain ⟨hP, hD⟩ := yw_36 ei_5 hP hD
    exact lb_Model_make_131 l dC dI cI cJ cB adK adV adA h v n hx hb hml hown hts hK hE hA hr hlocks _ _ _ _ _ _ hm _ _ _ hP hD hS (lv_sub hl [1, 2, 0] rfl)
def m_Model_make_b67 (n : Nat) (i : Nat → Int32) (j : Nat → Int64) (a : Nat → Nat → Int32) (b : Nat → Nat → Int64) (v3 : Int64) (v5 : Int32) (v6 : Int32) : Option ((Nat → Int32) × (Nat → Int64) × (Nat → Nat → Int32) × (Nat → Nat → Int64) × Int64) := ob0 (m_Model_sizeOf n i j a b v3) (fun r_2 => if r_2 ≤ ((300 : Int32)) then if v6 = ((-1 : Int32)) then m_Model_make_b104 n i j a b v3 v5 v6 (i 36) else m_Model_make_b104 n i j a b v3 v5 v6 (v6 - 10000) else om (m_Model_fails n i j a b (8 : Int32)) (fun i_6 j_7 a_8 b_9 r_10 => some (i_6, j_7, a_8, b_9, r_10)))
set_option maxHeartbeats 4000000 in
set_option maxRecDepth 100000 in
theorem lb_Model_make_67 (l : Launch) (dC : Nat → ClassId) (dI : Nat → Nat → Nat) (cI cJ cB : ClassId) (adK adV adA : Nat → Nat) (h : Nat) (v : Nat → Nat) (n : Nat) {p : Program} {e : Env} {s : State} {m : MethodId} {args : Array Value} {below : List Frame} {meth : Method} {c : Code} {A : Nat → Prop} (hx : p.tables.exec = Jvm.exec) (hb : c.code = b_Model_make) (hml : c.maxLocals = 8) (hown : s.vm.findClass R_Model = some m.cls) (hts : ∀ w ∈ w_Model_make, w.before args s = true) (hK : va_K (dC, dI) classes [(cI, .int), (cJ, .long), (cB, .byte)] s) (hE : tw_E adK adV adA A s s.heap) (hA : ∀ q : Nat, s.heap.size ≤ q → A q) (hr : meth.sig.returnType = (some .long)) (hlocks : meth.locks = false) {i2 : Nat → Int32} {j2 : Nat → Int64} {a2 : Nat → Nat → Int32} {b2 : Nat → Nat → Int64} {r2 : Int64} (i : Nat → Int32) (j : Nat → Int64) (a : Nat → Nat → Int32) (b : Nat → Nat → Int64) (v3 : Int64) (v5 : Int32) (v6 : Int32) (hm : m_Model_make_b67 n i j a b v3 v5 v6 = some (i2, j2, a2, b2, r2)) : ∀ (H : Heap) (locs : List Loc) (ls : Array Slot), va_P (dC, dI) classes (MW cI cJ cB h v i j a b) H → va_D A (MW cI cJ cB h v i j a b) → va_S A s.heap H locs → lv_has ls 8 [(0, .ref h), (3, .long v3), (5, .int v5), (6, .int v6)] → W p l e ({ frames := 3, cells := 0, slots := 0, locals := 64 } : Room) s m args below meth c H locs 0 0 (MQ below (va_Ql (xR r2) (yB dC dI cI cJ cB h v i2 j2 a2 b2 A) A) args s 0 0 A) (F0 m 67 ls []) := by
  have htt : ∀ w ∈ tw_T, w.before _ s = true := fun w h => hts w (List.mem_cons_of_mem _ h)
  intro H locs ls hP hD hS hl
  rw [m_Model_make_b67] at hm
  refine lv_aload_n hx hb d_Model_make_67 rfl (lv_at hl 0 rfl) ?_
  refine lv_lload_n hx hb d_Model_make_68 rfl (lv_at hl 1 rfl) ?_
  obtain ⟨r_2, h_1, hm⟩ := ob0_some hm
  have hFc := x_free0 hS hA
  refine va_calli (va_runV (As := [.long v3]) (rest := []) ⟨hx, hb, hml, hown, hts⟩ (x_Model_sizeOf l dC dI cI cJ cB adK adV adA h v H.size n h_1) (cwV 1 hts (tw_GV tw_cons cw_Model_sizeOf lk_Model_38 in_Model_sizeOf sel_Model_sizeOf ini_Model) rfl rfl rfl ⟨rfl, hd_Model_sizeOf⟩ ⟨Nat.le_of_ble_eq_true rfl, Nat.le_of_ble_eq_true rfl⟩) (ypVr hK hP hS hE hFc yo_12 rfl) rfl rfl hl.1 rfl (lv_room (Nat.le_of_ble_eq_true rfl)) d_Model_make_69 ⟨Nat.le_of_ble_eq_true rfl, Nat.le_of_ble_eq_true rfl⟩) hS (fun q _ h => hFc q h) hFc (fun r9 u9 t9 H locs ht hvm e9 hB hz1 hk1 hS => ?_)
  have e9 : r_2 = r9 := e9
  subst e9
  replace hP := x_keep hP hk1
  clear hFc hk1 hz1 hvm hB ht
  refine lv_sipush (v := 300) hx hb d_Model_make_72 (by decide) ?_
  refine lv_icmp_le (tgt := 85) hx hb d_Model_make_75 (by decide) (fun c_3 => ?_) (fun c_3 => ?_)
  · replace hm := if_t c_3 hm
    refine lv_iload hx hb d_Model_make_85 (lv_at hl 3 rfl) ?_
    refine lv_iconst (v := -1) hx hb d_Model_make_87 (by decide) ?_
    refine lv_icmp_ne (tgt := 98) hx hb d_Model_make_88 (by decide) (fun c_4 => ?_) (fun c_4 => ?_)
    · replace hm := if_f c_4 hm
      refine lv_iload hx hb d_Model_make_98 (lv_at hl 3 rfl) ?_
      refine lv_sipush (v := 10000) hx hb d_Model_make_100 (by decide) ?_
      refine lv_isub hx hb d_Model_make_103 ?_
      exact lb_Model_make_104 l dC dI cI cJ cB adK adV adA h v n hx hb hml hown hts hK hE hA hr hlocks _ _ _ _ _ _ _ _ hm _ _ _ hP hD hS (lv_sub hl [0, 1, 2, 3] rfl)
    · replace hm := if_t c_4 hm
      refine lv_aload_n hx hb d_Model_make_91 rfl (lv_at hl 0 rfl) ?_
      refine va_get (D := (dC, dI)) (ci := 12) (v := .int (i 36)) (C := R_Model) (T := F_Model) (N := 127) hx hb htt iw_Model hown hK hP 0 yo_12 rfl 36 (Nat.le_of_ble_eq_true rfl) (htt _ lk_Model_350) (fun _ h9 => h9) yg_36 d_Model_make_92 ?_
      refine lv_goto (tgt := 104) hx hb d_Model_make_95 (by decide) ?_
      exact lb_Model_make_104 l dC dI cI cJ cB adK adV adA h v n hx hb hml hown hts hK hE hA hr hlocks _ _ _ _ _ _ _ _ hm _ _ _ hP hD hS (lv_sub hl [0, 1, 2, 3] rfl)
  · replace hm := if_f c_3 hm
    refine lv_aload_n hx hb d_Model_make_78 rfl (lv_at hl 0 rfl) ?_
    refine lv_bipush (v := 8) hx hb d_Model_make_79 (by decide) ?_
    obtain ⟨i_6, j_7, a_8, b_9, r_10, h_5, hm⟩ := om_some hm
    have hFc := x_free hD hS hA
    refine va_calll (va_runV (As := [.int 8]) (rest := []) ⟨hx, hb, hml, hown, hts⟩ (x_Model_fails l dC dI cI cJ cB adK adV adA h v H.size n h_5) (cwV 1 hts (tw_GV tw_cons cw_Model_fails lk_Model_596 in_Model_fails sel_Model_fails ini_Model) rfl rfl rfl ⟨rfl, hd_Model_fails⟩ ⟨Nat.le_of_ble_eq_true rfl, Nat.le_of_ble_eq_true rfl⟩) (ypV hK hP hD hS hE hFc yo_12 rfl) rfl rfl hl.1 rfl (lv_room (Nat.le_of_ble_eq_true rfl)) d_Model_make_81 ⟨Nat.le_of_ble_eq_true rfl, Nat.le_of_ble_eq_true rfl⟩) hS (fun q _ h => hFc q h) hFc (fun r9 u9 t9 H locs ht hvm e9 hB hz1 hk1 hS => ?_)
    have e9 : r_10 = r9 := e9
    subst e9
    obtain ⟨hP, hD⟩ := y_aft hB ht hFc
    clear hFc hk1 hz1 hvm hB ht
    obtain ⟨e1i, e1j, e1a, e1b, e3⟩ := re4m hm
    obtain ⟨hP, hD⟩ := y_eq e1i e1j e1a e1b hP hD
    exact W.lret hx hb hr (fun t9 ht hW => ⟨⟨_, (), rfl, e3.symm, by rw [ht]; exact hP, hD⟩, hS.F ht⟩) hS.2.2 d_Model_make_84
def m_Model_make_b52 (n : Nat) (i : Nat → Int32) (j : Nat → Int64) (a : Nat → Nat → Int32) (b : Nat → Nat → Int64) (v3 : Int64) (v5 : Int32) (v6 : Int32) : Option ((Nat → Int32) × (Nat → Int64) × (Nat → Nat → Int32) × (Nat → Nat → Int64) × Int64) := if v6 = ((-1 : Int32)) then if ((i 36)) = ((64 : Int32)) then om (m_Model_fails n i j a b (8 : Int32)) (fun i_4 j_5 a_6 b_7 r_8 => some (i_4, j_5, a_6, b_7, r_8)) else m_Model_make_b67 n i j a b v3 v5 v6 else m_Model_make_b67 n i j a b v3 v5 v6
set_option maxHeartbeats 4000000 in
set_option maxRecDepth 100000 in
theorem lb_Model_make_52 (l : Launch) (dC : Nat → ClassId) (dI : Nat → Nat → Nat) (cI cJ cB : ClassId) (adK adV adA : Nat → Nat) (h : Nat) (v : Nat → Nat) (n : Nat) {p : Program} {e : Env} {s : State} {m : MethodId} {args : Array Value} {below : List Frame} {meth : Method} {c : Code} {A : Nat → Prop} (hx : p.tables.exec = Jvm.exec) (hb : c.code = b_Model_make) (hml : c.maxLocals = 8) (hown : s.vm.findClass R_Model = some m.cls) (hts : ∀ w ∈ w_Model_make, w.before args s = true) (hK : va_K (dC, dI) classes [(cI, .int), (cJ, .long), (cB, .byte)] s) (hE : tw_E adK adV adA A s s.heap) (hA : ∀ q : Nat, s.heap.size ≤ q → A q) (hr : meth.sig.returnType = (some .long)) (hlocks : meth.locks = false) {i2 : Nat → Int32} {j2 : Nat → Int64} {a2 : Nat → Nat → Int32} {b2 : Nat → Nat → Int64} {r2 : Int64} (i : Nat → Int32) (j : Nat → Int64) (a : Nat → Nat → Int32) (b : Nat → Nat → Int64) (v3 : Int64) (v5 : Int32) (v6 : Int32) (hm : m_Model_make_b52 n i j a b v3 v5 v6 = some (i2, j2, a2, b2, r2)) : ∀ (H : Heap) (locs : List Loc) (ls : Array Slot), va_P (dC, dI) classes (MW cI cJ cB h v i j a b) H → va_D A (MW cI cJ cB h v i j a b) → va_S A s.heap H locs → lv_has ls 8 [(0, .ref h), (3, .long v3), (5, .int v5), (6, .int v6)] → W p l e ({ frames := 3, cells := 0, slots := 0, locals := 64 } : Room) s m args below meth c H locs 0 0 (MQ below (va_Ql (xR r2) (yB dC dI cI cJ cB h v i2 j2 a2 b2 A) A) args s 0 0 A) (F0 m 52 ls []) := by
  have htt : ∀ w ∈ tw_T, w.before _ s = true := fun w h => hts w (List.mem_cons_of_mem _ h)
  intro H locs ls hP hD hS hl
  rw [m_Model_make_b52] at hm
  refine lv_iload hx hb d_Model_make_52 (lv_at hl 3 rfl) ?_
  refine lv_iconst (v := -1) hx hb d_Model_make_54 (by decide) ?_
  refine lv_icmp_ne (tgt := 67) hx hb d_Model_make_55 (by decide) (fun c_1 => ?_) (fun c_1 => ?_)
  · replace hm := if_f c_1 hm
    exact lb_Model_make_67 l dC dI cI cJ cB adK adV adA h v n hx hb hml hown hts hK hE hA hr hlocks _ _ _ _ _ _ _ hm _ _ _ hP hD hS (lv_sub hl [0, 1, 2, 3] rfl)
  · replace hm := if_t c_1 hm
    refine lv_aload_n hx hb d_Model_make_58 rfl (lv_at hl 0 rfl) ?_
    refine va_get (D := (dC, dI)) (ci := 12) (v := .int (i 36)) (C := R_Model) (T := F_Model) (N := 127) hx hb htt iw_Model hown hK hP 0 yo_12 rfl 36 (Nat.le_of_ble_eq_true rfl) (htt _ lk_Model_350) (fun _ h9 => h9) yg_36 d_Model_make_59 ?_
    refine lv_bipush (v := 64) hx hb d_Model_make_62 (by decide) ?_
    refine lv_icmp_eq (tgt := 78) hx hb d_Model_make_64 (by decide) (fun c_2 => ?_) (fun c_2 => ?_)
    · replace hm := if_t c_2 hm
      refine lv_aload_n hx hb d_Model_make_78 rfl (lv_at hl 0 rfl) ?_
      refine lv_bipush (v := 8) hx hb d_Model_make_79 (by decide) ?_
      obtain ⟨i_4, j_5, a_6, b_7, r_8, h_3, hm⟩ := om_some hm
      have hFc := x_free hD hS hA
      refine va_calll (va_runV (As := [.int 8]) (rest := []) ⟨hx, hb, hml, hown, hts⟩ (x_Model_fails l dC dI cI cJ cB adK adV adA h v H.size n h_3) (cwV 1 hts (tw_GV tw_cons cw_Model_fails lk_Model_596 in_Model_fails sel_Model_fails ini_Model) rfl rfl rfl ⟨rfl, hd_Model_fails⟩ ⟨Nat.le_of_ble_eq_true rfl, Nat.le_of_ble_eq_true rfl⟩) (ypV hK hP hD hS hE hFc yo_12 rfl) rfl rfl hl.1 rfl (lv_room (Nat.le_of_ble_eq_true rfl)) d_Model_make_81 ⟨Nat.le_of_ble_eq_true rfl, Nat.le_of_ble_eq_true rfl⟩) hS (fun q _ h => hFc q h) hFc (fun r9 u9 t9 H locs ht hvm e9 hB hz1 hk1 hS => ?_)
      have e9 : r_8 = r9 := e9
      subst e9
      obtain ⟨hP, hD⟩ := y_aft hB ht hFc
      clear hFc hk1 hz1 hvm hB ht
      obtain ⟨e1i, e1j, e1a, e1b, e3⟩ := re4m hm
      obtain ⟨hP, hD⟩ := y_eq e1i e1j e1a e1b hP hD
      exact W.lret hx hb hr (fun t9 ht hW => ⟨⟨_, (), rfl, e3.symm, by rw [ht]; exact hP, hD⟩, hS.F ht⟩) hS.2.2 d_Model_make_84
    · replace hm := if_f c_2 hm
      exact lb_Model_make_67 l dC dI cI cJ cB adK adV adA h v n hx hb hml hown hts hK hE hA hr hlocks _ _ _ _ _ _ _ hm _ _ _ hP hD hS (lv_sub hl [0, 1, 2, 3] rfl)
def m_Model_make (n : Nat) (i : Nat → Int32) (j : Nat → Int64) (a : Nat → Nat → Int32) (b : Nat → Nat → Int64) (v1 : Int64) (v3 : Int64) : Option ((Nat → Int32) × (Nat → Int64) × (Nat → Nat → Int32) × (Nat → Nat → Int64) × Int64) := ob0 (m_Model_what n v1) (fun r_2 => ck r_2 120000 (ck r_2 120000 (ob0 (m_Model_found n i j a b (a 3 r_2.toNatClampNeg) (a 4 r_2.toNatClampNeg)) (fun r_6 => if r_6 = ((-1 : Int32)) then m_Model_make_b52 n i j a b v3 r_2 r_6 else if ((10000 : Int32)) ≤ r_6 then m_Model_make_b52 n i j a b v3 r_2 r_6 else ck r_6 1800 (ob1 (svl b 115 r_6.toNatClampNeg v3 : Nat → Nat → Int64) (fun b_10 => some (i, j, a, b_10, 3)))))))
set_option maxHeartbeats 4000000 in
set_option maxRecDepth 100000 in
theorem x_Model_make (l : Launch) (dC : Nat → ClassId) (dI : Nat → Nat → Nat) (cI cJ cB : ClassId) (adK adV adA : Nat → Nat) (h : Nat) (v : Nat → Nat) (sz : Nat) (n : Nat) {i : Nat → Int32} {j : Nat → Int64} {a : Nat → Nat → Int32} {b : Nat → Nat → Int64} {v1 : Int64} {v3 : Int64} {i2 : Nat → Int32} {j2 : Nat → Int64} {a2 : Nat → Nat → Int32} {b2 : Nat → Nat → Int64} {r2 : Int64} (hm : m_Model_make n i j a b v1 v3 = some (i2, j2, a2, b2, r2)) : Met l y_Model_make w_Model_make ({ frames := 3, cells := 0, slots := 0, locals := 64 } : Room) (va_Pc [.ref h, .long v1, .long v3] (yE dC dI cI cJ cB adK adV adA h v i j a b sz)) (va_Ql (xR r2) (yB dC dI cI cJ cB h v i2 j2 a2 b2 (va_A (MW cI cJ cB h v i j a b) sz)) (va_A (MW cI cJ cB h v i j a b) sz)) 0 0 ((va_A (MW cI cJ cB h v i j a b) sz)) := by
  refine Met.ofW (cc := b_Model_make) (maxL := 8) (ret := (some .long)) (by decide) rfl ?_
  intro p e s m args below meth c s₁ B hml hv
  obtain ⟨rfl, hsz, hP, hK, hE, hD0⟩ := hv
  have hx := B.exec
  have hb := B.bytes
  have hr := B.returns
  have hts := atoms_spec (ws := w_Model_make) B.pre
  have htt : ∀ w ∈ tw_T, w.before _ s = true := fun w h => hts w (List.mem_cons_of_mem _ h)
  have hown : s.vm.findClass R_Model = some m.cls := findClass_of_methodNamed B.named
  have hlocks := B.notSynchronized
  subst hsz
  have hD := hD0.self (sz := s.heap.size)
  generalize hAe : (va_A (MW cI cJ cB h v i j a b) s.heap.size) = A at hD hE ⊢
  have hA : ∀ q : Nat, s.heap.size ≤ q → A q := fun q h => by rw [← hAe]; exact Or.inr h
  have hS : va_S A s.heap s.heap [] := va_S.rf
  have hl := lv_entry ([.ref h, .long v1, .long v3]) (n := 8) (Nat.le_of_ble_eq_true rfl)
  rw [lg_entry_eq]
  generalize (lg_sl ([.ref h, .long v1, .long v3]) ++ List.replicate (8 - (lg_sl ([.ref h, .long v1, .long v3])).length) Slot.unset).toArray = ls at hl ⊢
  have hl : lv_has ls 8 [(0, .ref h), (1, .long v1), (3, .long v3)] := hl
  rw [m_Model_make] at hm
  refine lv_lload_n hx hb d_Model_make_0 rfl (lv_at hl 1 rfl) ?_
  obtain ⟨r_2, h_1, hm⟩ := ob0_some hm
  have hFc := x_free0 hS hA
  refine va_calli (va_runS (As := [.long v1]) (rest := []) ⟨hx, hb, hml, hown, hts⟩ (x_Model_what l s.heap.size n h_1) (va_cwS 1 hts (tw_GS tw_cons cw_Model_what lk_Model_64 st_Model_what ini_Model) rfl rfl rfl hd_Model_what ⟨Nat.le_of_ble_eq_true rfl, Nat.le_of_ble_eq_true rfl⟩) xpS0 rfl rfl hl.1 rfl (lv_room (Nat.le_of_ble_eq_true rfl)) d_Model_make_1 ⟨Nat.le_of_ble_eq_true rfl, Nat.le_of_ble_eq_true rfl⟩) hS (fun q _ h => hFc q h) hFc (fun r9 u9 t9 H locs ht hvm e9 hB hz1 hk1 hS => ?_)
  have e9 : r_2 = r9 := e9
  subst e9
  replace hP := x_keep hP hk1
  clear hFc hk1 hz1 hvm hB ht
  refine lv_istore (lv' := [(5, .int r_2), (0, .ref h), (1, .long v1), (3, .long v3)]) hx hb d_Model_make_4 hl (by decide) rfl (fun ls hl => ?_)
  refine lv_aload_n hx hb d_Model_make_6 rfl (lv_at hl 1 rfl) ?_
  refine lv_aload_n hx hb d_Model_make_7 rfl (lv_at hl 1 rfl) ?_
  refine va_get (D := (dC, dI)) (ci := 12) (v := .ref ((v 3))) (C := R_Model) (T := F_Model) (N := 127) hx hb htt iw_Model hown hK hP 0 yo_12 rfl 3 (Nat.le_of_ble_eq_true rfl) (htt _ lk_Model_15) (fun _ h9 => h9) yg_3 d_Model_make_8 ?_
  refine lv_iload hx hb d_Model_make_11 (lv_at hl 0 rfl) ?_
  obtain ⟨h_3, hm⟩ := ck_some hm
  refine va_iald hx hb hK hP 3 0 ya_3 rfl h_3 d_Model_make_13 ?_
  refine lv_aload_n hx hb d_Model_make_14 rfl (lv_at hl 1 rfl) ?_
  refine va_get (D := (dC, dI)) (ci := 12) (v := .ref ((v 4))) (C := R_Model) (T := F_Model) (N := 127) hx hb htt iw_Model hown hK hP 0 yo_12 rfl 4 (Nat.le_of_ble_eq_true rfl) (htt _ lk_Model_22) (fun _ h9 => h9) yg_4 d_Model_make_15 ?_
  refine lv_iload hx hb d_Model_make_18 (lv_at hl 0 rfl) ?_
  obtain ⟨h_4, hm⟩ := ck_some hm
  refine va_iald hx hb hK hP 4 0 ya_4 rfl h_4 d_Model_make_20 ?_
  obtain ⟨r_6, h_5, hm⟩ := ob0_some hm
  have hFc := x_free0 hS hA
  refine va_calli (va_runV (As := [.int (a 3 r_2.toNatClampNeg), .int (a 4 r_2.toNatClampNeg)]) (rest := []) ⟨hx, hb, hml, hown, hts⟩ (x_Model_found l dC dI cI cJ cB adK adV adA h v H.size n h_5) (cwV 2 hts (tw_GV tw_cons cw_Model_found lk_Model_639 in_Model_found sel_Model_found ini_Model) rfl rfl rfl ⟨rfl, hd_Model_found⟩ ⟨Nat.le_of_ble_eq_true rfl, Nat.le_of_ble_eq_true rfl⟩) (ypVr hK hP hS hE hFc yo_12 rfl) rfl rfl hl.1 rfl (lv_room (Nat.le_of_ble_eq_true rfl)) d_Model_make_21 ⟨Nat.le_of_ble_eq_true rfl, Nat.le_of_ble_eq_true rfl⟩) hS (fun q _ h => hFc q h) hFc (fun r9 u9 t9 H locs ht hvm e9 hB hz1 hk1 hS => ?_)
  have e9 : r_6 = r9 := e9
  subst e9
  replace hP := x_keep hP hk1
  clear hFc hk1 hz1 hvm hB ht
  refine lv_istore (lv' := [(6, .int r_6), (5, .int r_2), (0, .ref h), (1, .long v1), (3, .long v3)]) hx hb d_Model_make_24 hl (by decide) rfl (fun ls hl => ?_)
  refine lv_iload hx hb d_Model_make_26 (lv_at hl 0 rfl) ?_
  refine lv_iconst (v := -1) hx hb d_Model_make_28 (by decide) ?_
  refine lv_icmp_eq (tgt := 52) hx hb d_Model_make_29 (by decide) (fun c_7 => ?_) (fun c_7 => ?_)
  · replace hm := if_t c_7 hm
    exact lb_Model_make_52 l dC dI cI cJ cB adK adV adA h v n hx hb hml hown hts hK hE hA hr hlocks _ _ _ _ _ _ _ hm _ _ _ hP hD hS (lv_sub hl [2, 4, 1, 0] rfl)
  · replace hm := if_f c_7 hm
    refine lv_iload hx hb d_Model_make_32 (lv_at hl 0 rfl) ?_
    refine lv_sipush (v := 10000) hx hb d_Model_make_34 (by decide) ?_
    refine lv_icmp_ge (tgt := 52) hx hb d_Model_make_37 (by decide) (fun c_8 => ?_) (fun c_8 => ?_)
    · replace hm := if_t c_8 hm
      exact lb_Model_make_52 l dC dI cI cJ cB adK adV adA h v n hx hb hml hown hts hK hE hA hr hlocks _ _ _ _ _ _ _ hm _ _ _ hP hD hS (lv_sub hl [2, 4, 1, 0] rfl)
    · replace hm := if_f c_8 hm
      refine lv_aload_n hx hb d_Model_make_40 rfl (lv_at hl 2 rfl) ?_
      refine va_get (D := (dC, dI)) (ci := 12) (v := .ref ((v 115))) (C := R_Model) (T := F_Model) (N := 127) hx hb htt iw_Model hown hK hP 0 yo_12 rfl 115 (Nat.le_of_ble_eq_true rfl) (htt _ lk_Model_313) (fun _ h9 => h9) yg_115 d_Model_make_41 ?_
      refine lv_iload hx hb d_Model_make_44 (lv_at hl 0 rfl) ?_
      refine lv_lload_n hx hb d_Model_make_46 rfl (lv_at hl 4 rfl) ?_
      obtain ⟨h_9, hm⟩ := ck_some hm
      refine va_last hx hb hK hP hD hS 65 1 ya_115 rfl h_9 d_Model_make_47 (fun H locs hP hD hS => ?_)
      obtain ⟨b_10, eb_10⟩ : ∃ y9 : Nat → Nat → Int64, y9 = svl b 115 r_6.toNatClampNeg v3 := ⟨_, rfl⟩
      replace hm := ob1_at eb_10 hm
      obtain ⟨hP, hD⟩ := yv_115 eb_10 hP hD
      refine lv_ldc2 (v := 3) hx hb hown (htt _ lk_Model_7) d_Model_make_48 ?_
      obtain ⟨e1i, e1j, e1a, e1b, e3⟩ := re4m hm
      obtain ⟨hP, hD⟩ := y_eq e1i e1j e1a e1b hP hD
      exact W.lret hx hb hr (fun t9 ht hW => ⟨⟨_, (), rfl, e3.symm, by rw [ht]; exact hP, hD⟩, hS.F ht⟩) hS.2.2 d_Model_make_51

def m_Model_show_b195 (n : Nat) (rc_48 : (Nat → Int32) → (Nat → Int64) → (Nat → Nat → Int32) → (Nat → Nat → Int64) → Int32 → Int32 → Option ((Nat → Int32) × (Nat → Int64) × (Nat → Nat → Int32) × (Nat → Nat → Int64) × Int32)) (i : Nat → Int32) (j : Nat → Int64) (a : Nat → Nat → Int32) (b : Nat → Nat → Int64) (v3 : Int32) (v4 : Int32) : Option ((Nat → Int32) × (Nat → Int64) × (Nat → Nat → Int32) × (Nat → Nat → Int64) × Int32) := rc_48 i j a b v3 v4
set_option maxHeartbeats 4000000 in
set_option maxRecDepth 100000 in
theorem lb_Model_show_195 (l : Launch) (dC : Nat → ClassId) (dI : Nat → Nat → Nat) (cI cJ cB : ClassId) (adK adV adA : Nat → Nat) (h : Nat) (v : Nat → Nat) (n : Nat) {p : Program} {e : Env} {s : State} {m : MethodId} {args : Array Value} {below : List Frame} {meth : Method} {c : Code} {A : Nat → Prop} (hx : p.tables.exec = Jvm.exec) (hb : c.code = b_Model_show) (hml : c.maxLocals = 9) (hown : s.vm.findClass R_Model = some m.cls) (hts : ∀ w ∈ w_Model_show, w.before args s = true) (hK : va_K (dC, dI) classes [(cI, .int), (cJ, .long), (cB, .byte)] s) (hE : tw_E adK adV adA A s s.heap) (hA : ∀ q : Nat, s.heap.size ≤ q → A q) (hr : meth.sig.returnType = none) (hlocks : meth.locks = false) {i2 : Nat → Int32} {j2 : Nat → Int64} {a2 : Nat → Nat → Int32} {b2 : Nat → Nat → Int64} {r2 : Int32} (rc_48 : (Nat → Int32) → (Nat → Int64) → (Nat → Nat → Int32) → (Nat → Nat → Int64) → Int32 → Int32 → Option ((Nat → Int32) × (Nat → Int64) × (Nat → Nat → Int32) × (Nat → Nat → Int64) × Int32)) (Hrc_48 : ∀ (i : Nat → Int32) (j : Nat → Int64) (a : Nat → Nat → Int32) (b : Nat → Nat → Int64) (v3 : Int32) (v4 : Int32), rc_48 i j a b v3 v4 = some (i2, j2, a2, b2, r2) → ∀ (H : Heap) (locs : List Loc) (ls : Array Slot), va_P (dC, dI) classes (MW cI cJ cB h v i j a b) H → va_D A (MW cI cJ cB h v i j a b) → va_S A s.heap H locs → lv_has ls 9 [(0, .ref h), (3, .int v3), (4, .int v4)] → W p l e ({ frames := 3, cells := 0, slots := 0, locals := 67 } : Room) s m args below meth c H locs 0 0 (MQ below (va_Qv xV (yB dC dI cI cJ cB h v i2 j2 a2 b2 A) A) args s 0 0 A) (F0 m 48 ls [])) (i : Nat → Int32) (j : Nat → Int64) (a : Nat → Nat → Int32) (b : Nat → Nat → Int64) (v3 : Int32) (v4 : Int32) (hm : m_Model_show_b195 n rc_48 i j a b v3 v4 = some (i2, j2, a2, b2, r2)) : ∀ (H : Heap) (locs : List Loc) (ls : Array Slot), va_P (dC, dI) classes (MW cI cJ cB h v i j a b) H → va_D A (MW cI cJ cB h v i j a b) → va_S A s.heap H locs → lv_has ls 9 [(0, .ref h), (3, .int v3), (4, .int v4)] → W p l e ({ frames := 3, cells := 0, slots := 0, locals := 67 } : Room) s m args below meth c H locs 0 0 (MQ below (va_Qv xV (yB dC dI cI cJ cB h v i2 j2 a2 b2 A) A) args s 0 0 A) (F0 m 195 ls []) := by
  have htt : ∀ w ∈ tw_T, w.before _ s = true := fun w h => hts w (List.mem_cons_of_mem _ h)
  intro H locs ls hP hD hS hl
  rw [m_Model_show_b195] at hm
  refine lv_goto (tgt := 48) hx hb d_Model_show_195 (by decide) ?_
  exact Hrc_48 _ _ _ _ _ _ hm _ _ _ hP hD hS (lv_sub hl [0, 1, 2] rfl)
def m_Model_show_b119 (n : Nat) (rc_48 : (Nat → Int32) → (Nat → Int64) → (Nat → Nat → Int32) → (Nat → Nat → Int64) → Int32 → Int32 → Option ((Nat → Int32) × (Nat → Int64) × (Nat → Nat → Int32) × (Nat → Nat → Int64) × Int32)) (i : Nat → Int32) (j : Nat → Int64) (a : Nat → Nat → Int32) (b : Nat → Nat → Int64) (v3 : Int32) (v4 : Int32) (v5 : Int32) (v6 : Int32) : Option ((Nat → Int32) × (Nat → Int64) × (Nat → Nat → Int32) × (Nat → Nat → Int64) × Int32) := ck ((v4 - 1)) 1300 (ck ((v4 - 1)) 1300 (ob1 (sv a 27 (v4 - 1).toNatClampNeg ((a 27 (v4 - 1).toNatClampNeg) + 1) : Nat → Nat → Int32) (fun a_3 => ck v5 90000 (ck (((a_3 12 v5.toNatClampNeg) + v6)) 90000 (ob1 (b 10 ((a_3 12 v5.toNatClampNeg) + v6).toNatClampNeg : Int64) (fun x_6 => ob0 (m_Model_isList n x_6) (fun r_8 => if r_8 = ((0 : Int32)) then om (m_Model_sayFlat n i j a_3 b x_6) (fun i_11 j_12 a_13 b_14 r_15 => m_Model_show_b195 n rc_48 i_11 j_12 a_13 b_14 v3 v4) else om (m_Model_say n i j a_3 b (91 : Int32)) (fun i_17 j_18 a_19 b_20 r_21 => ob0 (m_Model_what n x_6) (fun r_23 => ck v4 1300 (ob1 (sv a_19 26 v4.toNatClampNeg r_23 : Nat → Nat → Int32) (fun a_25 => ck v4 1300 (ob1 (sv a_25 27 v4.toNatClampNeg 0 : Nat → Nat → Int32) (fun a_27 => ob1 (v4 + 1 : Int32) (fun x_28 => m_Model_show_b195 n rc_48 i_17 j_18 a_27 b_20 v3 x_28))))))))))))))
set_option maxHeartbeats 4000000 in
set_option maxRecDepth 100000 in
theorem lb_Model_show_119 (l : Launch) (dC : Nat → ClassId) (dI : Nat → Nat → Nat) (cI cJ cB : ClassId) (adK adV adA : Nat → Nat) (h : Nat) (v : Nat → Nat) (n : Nat) {p : Program} {e : Env} {s : State} {m : MethodId} {args : Array Value} {below : List Frame} {meth : Method} {c : Code} {A : Nat → Prop} (hx : p.tables.exec = Jvm.exec) (hb : c.code = b_Model_show) (hml : c.maxLocals = 9) (hown : s.vm.findClass R_Model = some m.cls) (hts : ∀ w ∈ w_Model_show, w.before args s = true) (hK : va_K (dC, dI) classes [(cI, .int), (cJ, .long), (cB, .byte)] s) (hE : tw_E adK adV adA A s s.heap) (hA : ∀ q : Nat, s.heap.size ≤ q → A q) (hr : meth.sig.returnType = none) (hlocks : meth.locks = false) {i2 : Nat → Int32} {j2 : Nat → Int64} {a2 : Nat → Nat → Int32} {b2 : Nat → Nat → Int64} {r2 : Int32} (rc_48 : (Nat → Int32) → (Nat → Int64) → (Nat → Nat → Int32) → (Nat → Nat → Int64) → Int32 → Int32 → Option ((Nat → Int32) × (Nat → Int64) × (Nat → Nat → Int32) × (Nat → Nat → Int64) × Int32)) (Hrc_48 : ∀ (i : Nat → Int32) (j : Nat → Int64) (a : Nat → Nat → Int32) (b : Nat → Nat → Int64) (v3 : Int32) (v4 : Int32), rc_48 i j a b v3 v4 = some (i2, j2, a2, b2, r2) → ∀ (H : Heap) (locs : List Loc) (ls : Array Slot), va_P (dC, dI) classes (MW cI cJ cB h v i j a b) H → va_D A (MW cI cJ cB h v i j a b) → va_S A s.heap H locs → lv_has ls 9 [(0, .ref h), (3, .int v3), (4, .int v4)] → W p l e ({ frames := 3, cells := 0, slots := 0, locals := 67 } : Room) s m args below meth c H locs 0 0 (MQ below (va_Qv xV (yB dC dI cI cJ cB h v i2 j2 a2 b2 A) A) args s 0 0 A) (F0 m 48 ls [])) (i : Nat → Int32) (j : Nat → Int64) (a : Nat → Nat → Int32) (b : Nat → Nat → Int64) (v3 : Int32) (v4 : Int32) (v5 : Int32) (v6 : Int32) (hm : m_Model_show_b119 n rc_48 i j a b v3 v4 v5 v6 = some (i2, j2, a2, b2, r2)) : ∀ (H : Heap) (locs : List Loc) (ls : Array Slot), va_P (dC, dI) classes (MW cI cJ cB h v i j a b) H → va_D A (MW cI cJ cB h v i j a b) → va_S A s.heap H locs → lv_has ls 9 [(0, .ref h), (3, .int v3), (4, .int v4), (5, .int v5), (6, .int v6)] → W p l e ({ frames := 3, cells := 0, slots := 0, locals := 67 } : Room) s m args below meth c H locs 0 0 (MQ below (va_Qv xV (yB dC dI cI cJ cB h v i2 j2 a2 b2 A) A) args s 0 0 A) (F0 m 119 ls []) := by
  have htt : ∀ w ∈ tw_T, w.before _ s = true := fun w h => hts w (List.mem_cons_of_mem _ h)
  intro H locs ls hP hD hS hl
  rw [m_Model_show_b119] at hm
  refine lv_aload_n hx hb d_Model_show_119 rfl (lv_at hl 0 rfl) ?_
  refine va_get (D := (dC, dI)) (ci := 12) (v := .ref ((v 27))) (C := R_Model) (T := F_Model) (N := 127) hx hb htt iw_Model hown hK hP 0 yo_12 rfl 27 (Nat.le_of_ble_eq_true rfl) (htt _ lk_Model_131) (fun _ h9 => h9) yg_27 d_Model_show_120 ?_
  refine lv_iload hx hb d_Model_show_123 (lv_at hl 2 rfl) ?_
  refine lv_iconst (v := 1) hx hb d_Model_show_125 (by decide) ?_
  refine lv_isub hx hb d_Model_show_126 ?_
  refine lv_dup2_11 hx hb d_Model_show_127 rfl rfl ?_
  obtain ⟨h_1, hm⟩ := ck_some hm
  refine va_iald hx hb hK hP 22 0 ya_27 rfl h_1 d_Model_show_128 ?_
  refine lv_iconst (v := 1) hx hb d_Model_show_129 (by decide) ?_
  refine lv_iadd hx hb d_Model_show_130 ?_
  obtain ⟨h_2, hm⟩ := ck_some hm
  refine va_iast hx hb hK hP hD hS 22 0 ya_27 rfl h_2 d_Model_show_131 (fun H locs hP hD hS => ?_)
  obtain ⟨a_3, ea_3⟩ : ∃ y9 : Nat → Nat → Int32, y9 = sv a 27 (v4 - 1).toNatClampNeg ((a 27 (v4 - 1).toNatClampNeg) + 1) := ⟨_, rfl⟩
  replace hm := ob1_at ea_3 hm
  obtain ⟨hP, hD⟩ := yv_27 ea_3 hP hD
  refine lv_aload_n hx hb d_Model_show_132 rfl (lv_at hl 0 rfl) ?_
  refine va_get (D := (dC, dI)) (ci := 12) (v := .ref ((v 10))) (C := R_Model) (T := F_Model) (N := 127) hx hb htt iw_Model hown hK hP 0 yo_12 rfl 10 (Nat.le_of_ble_eq_true rfl) (htt _ lk_Model_35) (fun _ h9 => h9) yg_10 d_Model_show_133 ?_
  refine lv_aload_n hx hb d_Model_show_136 rfl (lv_at hl 0 rfl) ?_
  refine va_get (D := (dC, dI)) (ci := 12) (v := .ref ((v 12))) (C := R_Model) (T := F_Model) (N := 127) hx hb htt iw_Model hown hK hP 0 yo_12 rfl 12 (Nat.le_of_ble_eq_true rfl) (htt _ lk_Model_41) (fun _ h9 => h9) yg_12 d_Model_show_137 ?_
  refine lv_iload hx hb d_Model_show_140 (lv_at hl 3 rfl) ?_
  obtain ⟨h_4, hm⟩ := ck_some hm
  refine va_iald hx hb hK hP 12 0 ya_12 rfl h_4 d_Model_show_142 ?_
  refine lv_iload hx hb d_Model_show_143 (lv_at hl 4 rfl) ?_
  refine lv_iadd hx hb d_Model_show_145 ?_
  obtain ⟨h_5, hm⟩ := ck_some hm
  refine va_lald hx hb hK hP 10 1 ya_10 rfl h_5 d_Model_show_146 ?_
  refine lv_topl (fun x_6 ex_6 => ?_)
  replace hm := ob1_at ex_6 hm
  refine lv_lstore (lv' := [(7, .long x_6), (0, .ref h), (3, .int v3), (4, .int v4), (5, .int v5), (6, .int v6)]) hx hb d_Model_show_147 hl (by decide) rfl (fun ls hl => ?_)
  refine lv_lload hx hb d_Model_show_149 (lv_at hl 0 rfl) ?_
  obtain ⟨r_8, h_7, hm⟩ := ob0_some hm
  have hFc := x_free0 hS hA
  refine va_calli (va_runS (As := [.long x_6]) (rest := []) ⟨hx, hb, hml, hown, hts⟩ (x_Model_isList l H.size n h_7) (va_cwS 1 hts (tw_GS tw_cons cw_Model_isList lk_Model_95 st_Model_isList ini_Model) rfl rfl rfl hd_Model_isList ⟨Nat.le_of_ble_eq_true rfl, Nat.le_of_ble_eq_true rfl⟩) xpS0 rfl rfl hl.1 rfl (lv_room (Nat.le_of_ble_eq_true rfl)) d_Model_show_151 ⟨Nat.le_of_ble_eq_true rfl, Nat.le_of_ble_eq_true rfl⟩) hS (fun q _ h => hFc q h) hFc (fun r9 u9 t9 H locs ht hvm e9 hB hz1 hk1 hS => ?_)
  have e9 : r_8 = r9 := e9
  subst e9
  replace hP := x_keep hP hk1
  clear hFc hk1 hz1 hvm hB ht
  refine lv_if_eq (tgt := 189) hx hb d_Model_show_154 (by decide) (fun c_9 => ?_) (fun c_9 => ?_)
  · replace hm := if_t c_9 hm
    refine lv_aload_n hx hb d_Model_show_189 rfl (lv_at hl 1 rfl) ?_
    refine lv_lload hx hb d_Model_show_190 (lv_at hl 0 rfl) ?_
    obtain ⟨i_11, j_12, a_13, b_14, r_15, h_10, hm⟩ := om_some hm
    have hFc := x_free hD hS hA
    refine va_callv (va_runV (As := [.long x_6]) (rest := []) ⟨hx, hb, hml, hown, hts⟩ (x_Model_sayFlat l dC dI cI cJ cB adK adV adA h v H.size n h_10) (cwV 1 hts (tw_GV tw_cons cw_Model_sayFlat lk_Model_124 in_Model_sayFlat sel_Model_sayFlat ini_Model) rfl rfl rfl ⟨rfl, hd_Model_sayFlat⟩ ⟨Nat.le_of_ble_eq_true rfl, Nat.le_of_ble_eq_true rfl⟩) (ypV hK hP hD hS hE hFc yo_12 rfl) rfl rfl hl.1 rfl (lv_room (Nat.le_of_ble_eq_true rfl)) d_Model_show_192 ⟨Nat.le_of_ble_eq_true rfl, Nat.le_of_ble_eq_true rfl⟩) hS (fun q _ h => hFc q h) hFc (fun u9 t9 H locs ht hvm e9 hB hz1 hk1 hS => ?_)
    obtain ⟨hP, hD⟩ := y_aft hB ht hFc
    clear hFc hk1 hz1 hvm hB ht
    exact lb_Model_show_195 l dC dI cI cJ cB adK adV adA h v n hx hb hml hown hts hK hE hA hr hlocks rc_48 Hrc_48 _ _ _ _ _ _ hm _ _ _ hP hD hS (lv_sub hl [1, 2, 3] rfl)
  · replace hm := if_f c_9 hm
    refine lv_aload_n hx hb d_Model_show_157 rfl (lv_at hl 1 rfl) ?_
    refine lv_bipush (v := 91) hx hb d_Model_show_158 (by decide) ?_
    obtain ⟨i_17, j_18, a_19, b_20, r_21, h_16, hm⟩ := om_some hm
    have hFc := x_free hD hS hA
    refine va_callv (va_runV (As := [.int 91]) (rest := []) ⟨hx, hb, hml, hown, hts⟩ (x_Model_say l dC dI cI cJ cB adK adV adA h v H.size n h_16) (cwV 1 hts (tw_GV tw_cons cw_Model_say lk_Model_111 in_Model_say sel_Model_say ini_Model) rfl rfl rfl ⟨rfl, hd_Model_say⟩ ⟨Nat.le_of_ble_eq_true rfl, Nat.le_of_ble_eq_true rfl⟩) (ypV hK hP hD hS hE hFc yo_12 rfl) rfl rfl hl.1 rfl (lv_room (Nat.le_of_ble_eq_true rfl)) d_Model_show_160 ⟨Nat.le_of_ble_eq_true rfl, Nat.le_of_ble_eq_true rfl⟩) hS (fun q _ h => hFc q h) hFc (fun u9 t9 H locs ht hvm e9 hB hz1 hk1 hS => ?_)
    obtain ⟨hP, hD⟩ := y_aft hB ht hFc
    clear hFc hk1 hz1 hvm hB ht
    refine lv_aload_n hx hb d_Model_show_163 rfl (lv_at hl 1 rfl) ?_
    refine va_get (D := (dC, dI)) (ci := 12) (v := .ref ((v 26))) (C := R_Model) (T := F_Model) (N := 127) hx hb htt iw_Model hown hK hP 0 yo_12 rfl 26 (Nat.le_of_ble_eq_true rfl) (htt _ lk_Model_128) (fun _ h9 => h9) yg_26 d_Model_show_164 ?_
    refine lv_iload hx hb d_Model_show_167 (lv_at hl 3 rfl) ?_
    refine lv_lload hx hb d_Model_show_169 (lv_at hl 0 rfl) ?_
    obtain ⟨r_23, h_22, hm⟩ := ob0_some hm
    have hFc := x_free0 hS hA
    refine va_calli (va_runS (As := [.long x_6]) (rest := [.int v4, .ref ((v 26))]) ⟨hx, hb, hml, hown, hts⟩ (x_Model_what l H.size n h_22) (va_cwS 1 hts (tw_GS tw_cons cw_Model_what lk_Model_64 st_Model_what ini_Model) rfl rfl rfl hd_Model_what ⟨Nat.le_of_ble_eq_true rfl, Nat.le_of_ble_eq_true rfl⟩) xpS0 rfl rfl hl.1 rfl (lv_room (Nat.le_of_ble_eq_true rfl)) d_Model_show_171 ⟨Nat.le_of_ble_eq_true rfl, Nat.le_of_ble_eq_true rfl⟩) hS (fun q _ h => hFc q h) hFc (fun r9 u9 t9 H locs ht hvm e9 hB hz1 hk1 hS => ?_)
    have e9 : r_23 = r9 := e9
    subst e9
    replace hP := x_keep hP hk1
    clear hFc hk1 hz1 hvm hB ht
    obtain ⟨h_24, hm⟩ := ck_some hm
    refine va_iast hx hb hK hP hD hS 21 0 ya_26 rfl h_24 d_Model_show_174 (fun H locs hP hD hS => ?_)
    obtain ⟨a_25, ea_25⟩ : ∃ y9 : Nat → Nat → Int32, y9 = sv a_19 26 v4.toNatClampNeg r_23 := ⟨_, rfl⟩
    replace hm := ob1_at ea_25 hm
    obtain ⟨hP, hD⟩ := yv_26 ea_25 hP hD
    refine lv_aload_n hx hb d_Model_show_175 rfl (lv_at hl 1 rfl) ?_
    refine va_get (D := (dC, dI)) (ci := 12) (v := .ref ((v 27))) (C := R_Model) (T := F_Model) (N := 127) hx hb htt iw_Model hown hK hP 0 yo_12 rfl 27 (Nat.le_of_ble_eq_true rfl) (htt _ lk_Model_131) (fun _ h9 => h9) yg_27 d_Model_show_176 ?_
    refine lv_iload hx hb d_Model_show_179 (lv_at hl 3 rfl) ?_
    refine lv_iconst (v := 0) hx hb d_Model_show_181 (by decide) ?_
    obtain ⟨h_26, hm⟩ := ck_some hm
    refine va_iast hx hb hK hP hD hS 22 0 ya_27 rfl h_26 d_Model_show_182 (fun H locs hP hD hS => ?_)
    obtain ⟨a_27, ea_27⟩ : ∃ y9 : Nat → Nat → Int32, y9 = sv a_25 27 v4.toNatClampNeg 0 := ⟨_, rfl⟩
    replace hm := ob1_at ea_27 hm
    obtain ⟨hP, hD⟩ := yv_27 ea_27 hP hD
    obtain ⟨x_28, ex_28⟩ : ∃ y9 : Int32, y9 = v4 + 1 := ⟨_, rfl⟩
    replace hm := ob1_at ex_28 hm
    refine lv_iinc (v := x_28) (lv' := [(4, .int x_28), (7, .long x_6), (0, .ref h), (3, .int v3), (5, .int v5), (6, .int v6)]) hx hb d_Model_show_183 hl (k := 3) rfl (by rw [ex_28]; rfl) (by decide) rfl (fun ls hl => ?_)
    refine lv_goto (tgt := 195) hx hb d_Model_show_186 (by decide) ?_
    exact lb_Model_show_195 l dC dI cI cJ cB adK adV adA h v n hx hb hml hown hts hK hE hA hr hlocks rc_48 Hrc_48 _ _ _ _ _ _ hm _ _ _ hP hD hS (lv_sub hl [2, 3, 0] rfl)
def m_Model_show_b99 (n : Nat) (rc_48 : (Nat → Int32) → (Nat → Int64) → (Nat → Nat → Int32) → (Nat → Nat → Int64) → Int32 → Int32 → Option ((Nat → Int32) × (Nat → Int64) × (Nat → Nat → Int32) × (Nat → Nat → Int64) × Int32)) (i : Nat → Int32) (j : Nat → Int64) (a : Nat → Nat → Int32) (b : Nat → Nat → Int64) (v3 : Int32) (v4 : Int32) : Option ((Nat → Int32) × (Nat → Int64) × (Nat → Nat → Int32) × (Nat → Nat → Int64) × Int32) := om (m_Model_say n i j a b (93 : Int32)) (fun i_2 j_3 a_4 b_5 r_6 => rc_48 i_2 j_3 a_4 b_5 v3 v4)
set_option maxHeartbeats 4000000 in
set_option maxRecDepth 100000 in
theorem lb_Model_show_99 (l : Launch) (dC : Nat → ClassId) (dI : Nat → Nat → Nat) (cI cJ cB : ClassId) (adK adV adA : Nat → Nat) (h : Nat) (v : Nat → Nat) (n : Nat) {p : Program} {e : Env} {s : State} {m : MethodId} {args : Array Value} {below : List Frame} {meth : Method} {c : Code} {A : Nat → Prop} (hx : p.tables.exec = Jvm.exec) (hb : c.code = b_Model_show) (hml : c.maxLocals = 9) (hown : s.vm.findClass R_Model = some m.cls) (hts : ∀ w ∈ w_Model_show, w.before args s = true) (hK : va_K (dC, dI) classes [(cI, .int), (cJ, .long), (cB, .byte)] s) (hE : tw_E adK adV adA A s s.heap) (hA : ∀ q : Nat, s.heap.size ≤ q → A q) (hr : meth.sig.returnType = none) (hlocks : meth.locks = false) {i2 : Nat → Int32} {j2 : Nat → Int64} {a2 : Nat → Nat → Int32} {b2 : Nat → Nat → Int64} {r2 : Int32} (rc_48 : (Nat → Int32) → (Nat → Int64) → (Nat → Nat → Int32) → (Nat → Nat → Int64) → Int32 → Int32 → Option ((Nat → Int32) × (Nat → Int64) × (Nat → Nat → Int32) × (Nat → Nat → Int64) × Int32)) (Hrc_48 : ∀ (i : Nat → Int32) (j : Nat → Int64) (a : Nat → Nat → Int32) (b : Nat → Nat → Int64) (v3 : Int32) (v4 : Int32), rc_48 i j a b v3 v4 = some (i2, j2, a2, b2, r2) → ∀ (H : Heap) (locs : List Loc) (ls : Array Slot), va_P (dC, dI) classes (MW cI cJ cB h v i j a b) H → va_D A (MW cI cJ cB h v i j a b) → va_S A s.heap H locs → lv_has ls 9 [(0, .ref h), (3, .int v3), (4, .int v4)] → W p l e ({ frames := 3, cells := 0, slots := 0, locals := 67 } : Room) s m args below meth c H locs 0 0 (MQ below (va_Qv xV (yB dC dI cI cJ cB h v i2 j2 a2 b2 A) A) args s 0 0 A) (F0 m 48 ls [])) (i : Nat → Int32) (j : Nat → Int64) (a : Nat → Nat → Int32) (b : Nat → Nat → Int64) (v3 : Int32) (v4 : Int32) (hm : m_Model_show_b99 n rc_48 i j a b v3 v4 = some (i2, j2, a2, b2, r2)) : ∀ (H : Heap) (locs : List Loc) (ls : Array Slot), va_P (dC, dI) classes (MW cI cJ cB h v i j a b) H → va_D A (MW cI cJ cB h v i j a b) → va_S A s.heap H locs → lv_has ls 9 [(0, .ref h), (3, .int v3), (4, .int v4)] → W p l e ({ frames := 3, cells := 0, slots := 0, locals := 67 } : Room) s m args below meth c H locs 0 0 (MQ below (va_Qv xV (yB dC dI cI cJ cB h v i2 j2 a2 b2 A) A) args s 0 0 A) (F0 m 99 ls []) := by
  have htt : ∀ w ∈ tw_T, w.before _ s = true := fun w h => hts w (List.mem_cons_of_mem _ h)
  intro H locs ls hP hD hS hl
  rw [m_Model_show_b99] at hm
  refine lv_aload_n hx hb d_Model_show_99 rfl (lv_at hl 0 rfl) ?_
  refine lv_bipush (v := 93) hx hb d_Model_show_100 (by decide) ?_
  obtain ⟨i_2, j_3, a_4, b_5, r_6, h_1, hm⟩ := om_some hm
  have hFc := x_free hD hS hA
  refine va_callv (va_runV (As := [.int 93]) (rest := []) ⟨hx, hb, hml, hown, hts⟩ (x_Model_say l dC dI cI cJ cB adK adV adA h v H.size n h_1) (cwV 1 hts (tw_GV tw_cons cw_Model_say lk_Model_111 in_Model_say sel_Model_say ini_Model) rfl rfl rfl ⟨rfl, hd_Model_say⟩ ⟨Nat.le_of_ble_eq_true rfl, Nat.le_of_ble_eq_true rfl⟩) (ypV hK hP hD hS hE hFc yo_12 rfl) rfl rfl hl.1 rfl (lv_room (Nat.le_of_ble_eq_true rfl)) d_Model_show_102 ⟨Nat.le_of_ble_eq_true rfl, Nat.le_of_ble_eq_true rfl⟩) hS (fun q _ h => hFc q h) hFc (fun u9 t9 H locs ht hvm e9 hB hz1 hk1 hS => ?_)
  obtain ⟨hP, hD⟩ := y_aft hB ht hFc
  clear hFc hk1 hz1 hvm hB ht
  refine lv_goto (tgt := 48) hx hb d_Model_show_105 (by decide) ?_
  exact Hrc_48 _ _ _ _ _ _ hm _ _ _ hP hD hS (lv_sub hl [0, 1, 2] rfl)
def m_Model_show_b48 (n : Nat) : Nat → (Nat → Int32) → (Nat → Int64) → (Nat → Nat → Int32) → (Nat → Nat → Int64) → Int32 → Int32 → Option ((Nat → Int32) × (Nat → Int64) × (Nat → Nat → Int32) × (Nat → Nat → Int64) × Int32)
  | 0, _, _, _, _, _, _ => none
  | f + 1, i, j, a, b, v3, v4 => if v4 ≤ ((0 : Int32)) then some (i, j, a, b, (0 : Int32)) else ck ((v4 - 1)) 1300 (ob1 (a 26 (v4 - 1).toNatClampNeg : Int32) (fun x_3 => ck ((v4 - 1)) 1300 (ob1 (a 27 (v4 - 1).toNatClampNeg : Int32) (fun x_5 => ck x_3 90000 (if x_5 = ((a 13 x_3.toNatClampNeg)) then ob1 (v4 + (-1) : Int32) (fun x_15 => if ((0 : Int32)) < x_15 then m_Model_show_b99 n (m_Model_show_b48 n f) i j a b v3 x_15 else if v3 = ((0 : Int32)) then m_Model_show_b99 n (m_Model_show_b48 n f) i j a b v3 x_15 else m_Model_show_b48 n f i j a b v3 x_15) else if x_5 ≤ ((0 : Int32)) then m_Model_show_b119 n (m_Model_show_b48 n f) i j a b v3 v4 x_3 x_5 else om (m_Model_say n i j a b (32 : Int32)) (fun i_10 j_11 a_12 b_13 r_14 => m_Model_show_b119 n (m_Model_show_b48 n f) i_10 j_11 a_12 b_13 v3 v4 x_3 x_5))))))
set_option maxHeartbeats 4000000 in
set_option maxRecDepth 100000 in
theorem lb_Model_show_48 (l : Launch) (dC : Nat → ClassId) (dI : Nat → Nat → Nat) (cI cJ cB : ClassId) (adK adV adA : Nat → Nat) (h : Nat) (v : Nat → Nat) (n : Nat) {p : Program} {e : Env} {s : State} {m : MethodId} {args : Array Value} {below : List Frame} {meth : Method} {c : Code} {A : Nat → Prop} (hx : p.tables.exec = Jvm.exec) (hb : c.code = b_Model_show) (hml : c.maxLocals = 9) (hown : s.vm.findClass R_Model = some m.cls) (hts : ∀ w ∈ w_Model_show, w.before args s = true) (hK : va_K (dC, dI) classes [(cI, .int), (cJ, .long), (cB, .byte)] s) (hE : tw_E adK adV adA A s s.heap) (hA : ∀ q : Nat, s.heap.size ≤ q → A q) (hr : meth.sig.returnType = none) (hlocks : meth.locks = false) {i2 : Nat → Int32} {j2 : Nat → Int64} {a2 : Nat → Nat → Int32} {b2 : Nat → Nat → Int64} {r2 : Int32} : ∀ (f : Nat) (i : Nat → Int32) (j : Nat → Int64) (a : Nat → Nat → Int32) (b : Nat → Nat → Int64) (v3 : Int32) (v4 : Int32), m_Model_show_b48 n f i j a b v3 v4 = some (i2, j2, a2, b2, r2) → ∀ (H : Heap) (locs : List Loc) (ls : Array Slot), va_P (dC, dI) classes (MW cI cJ cB h v i j a b) H → va_D A (MW cI cJ cB h v i j a b) → va_S A s.heap H locs → lv_has ls 9 [(0, .ref h), (3, .int v3), (4, .int v4)] → W p l e ({ frames := 3, cells := 0, slots := 0, locals := 67 } : Room) s m args below meth c H locs 0 0 (MQ below (va_Qv xV (yB dC dI cI cJ cB h v i2 j2 a2 b2 A) A) args s 0 0 A) (F0 m 48 ls []) := by
  have htt : ∀ w ∈ tw_T, w.before _ s = true := fun w h => hts w (List.mem_cons_of_mem _ h)
  intro f
  induction f with
  | zero =>
    intro i j a b v3 v4 hm
    rw [m_Model_show_b48] at hm
    cases hm
  | succ f ih =>
    intro i j a b v3 v4 hm H locs ls hP hD hS hl
    rw [m_Model_show_b48] at hm
    refine lv_iload hx hb d_Model_show_48 (lv_at hl 2 rfl) ?_
    refine lv_if_le (tgt := 198) hx hb d_Model_show_50 (by decide) (fun c_1 => ?_) (fun c_1 => ?_)
    · replace hm := if_t c_1 hm
      obtain ⟨e1i, e1j, e1a, e1b, e3⟩ := re4m hm
      obtain ⟨hP, hD⟩ := y_eq e1i e1j e1a e1b hP hD
      exact W.vret hx hb hr (fun t9 ht hW => ⟨⟨(), rfl, trivial, by rw [ht]; exact hP, hD⟩, hS.F ht⟩) hS.2.2 d_Model_show_198
    · replace hm := if_f c_1 hm
      refine lv_aload_n hx hb d_Model_show_53 rfl (lv_at hl 0 rfl) ?_
      refine va_get (D := (dC, dI)) (ci := 12) (v := .ref ((v 26))) (C := R_Model) (T := F_Model) (N := 127) hx hb htt iw_Model hown hK hP 0 yo_12 rfl 26 (Nat.le_of_ble_eq_true rfl) (htt _ lk_Model_128) (fun _ h9 => h9) yg_26 d_Model_show_54 ?_
      refine lv_iload hx hb d_Model_show_57 (lv_at hl 2 rfl) ?_
      refine lv_iconst (v := 1) hx hb d_Model_show_59 (by decide) ?_
      refine lv_isub hx hb d_Model_show_60 ?_
      obtain ⟨h_2, hm⟩ := ck_some hm
      refine va_iald hx hb hK hP 21 0 ya_26 rfl h_2 d_Model_show_61 ?_
      refine lv_topi (fun x_3 ex_3 => ?_)
      replace hm := ob1_at ex_3 hm
      refine lv_istore (lv' := [(5, .int x_3), (0, .ref h), (3, .int v3), (4, .int v4)]) hx hb d_Model_show_62 hl (by decide) rfl (fun ls hl => ?_)
      refine lv_aload_n hx hb d_Model_show_64 rfl (lv_at hl 1 rfl) ?_
      refine va_get (D := (dC, dI)) (ci := 12) (v := .ref ((v 27))) (C := R_Model) (T := F_Model) (N := 127) hx hb htt iw_Model hown hK hP 0 yo_12 rfl 27 (Nat.le_of_ble_eq_true rfl) (htt _ lk_Model_131) (fun _ h9 => h9) yg_27 d_Model_show_65 ?_
      refine lv_iload hx hb d_Model_show_68 (lv_at hl 3 rfl) ?_
      refine lv_iconst (v := 1) hx hb d_Model_show_70 (by decide) ?_
      refine lv_isub hx hb d_Model_show_71 ?_
      obtain ⟨h_4, hm⟩ := ck_some hm
      refine va_iald hx hb hK hP 22 0 ya_27 rfl h_4 d_Model_show_72 ?_
      refine lv_topi (fun x_5 ex_5 => ?_)
      replace hm := ob1_at ex_5 hm
      refine lv_istore (lv' := [(6, .int x_5), (5, .int x_3), (0, .ref h), (3, .int v3), (4, .int v4)]) hx hb d_Model_show_73 hl (by decide) rfl (fun ls hl => ?_)
      refine lv_iload hx hb d_Model_show_75 (lv_at hl 0 rfl) ?_
      refine lv_aload_n hx hb d_Model_show_77 rfl (lv_at hl 2 rfl) ?_
      refine va_get (D := (dC, dI)) (ci := 12) (v := .ref ((v 13))) (C := R_Model) (T := F_Model) (N := 127) hx hb htt iw_Model hown hK hP 0 yo_12 rfl 13 (Nat.le_of_ble_eq_true rfl) (htt _ lk_Model_47) (fun _ h9 => h9) yg_13 d_Model_show_78 ?_
      refine lv_iload hx hb d_Model_show_81 (lv_at hl 1 rfl) ?_
      obtain ⟨h_6, hm⟩ := ck_some hm
      refine va_iald hx hb hK hP 13 0 ya_13 rfl h_6 d_Model_show_83 ?_
      refine lv_icmp_ne (tgt := 108) hx hb d_Model_show_84 (by decide) (fun c_7 => ?_) (fun c_7 => ?_)
      · replace hm := if_f c_7 hm
        refine lv_iload hx hb d_Model_show_108 (lv_at hl 0 rfl) ?_
        refine lv_if_le (tgt := 119) hx hb d_Model_show_110 (by decide) (fun c_8 => ?_) (fun c_8 => ?_)
        · replace hm := if_t c_8 hm
          exact lb_Model_show_119 l dC dI cI cJ cB adK adV adA h v n hx hb hml hown hts hK hE hA hr hlocks (m_Model_show_b48 n f) ih _ _ _ _ _ _ _ _ hm _ _ _ hP hD hS (lv_sub hl [2, 3, 4, 1, 0] rfl)
        · replace hm := if_f c_8 hm
          refine lv_aload_n hx hb d_Model_show_113 rfl (lv_at hl 2 rfl) ?_
          refine lv_bipush (v := 32) hx hb d_Model_show_114 (by decide) ?_
          obtain ⟨i_10, j_11, a_12, b_13, r_14, h_9, hm⟩ := om_some hm
          have hFc := x_free hD hS hA
          refine va_callv (va_runV (As := [.int 32]) (rest := []) ⟨hx, hb, hml, hown, hts⟩ (x_Model_say l dC dI cI cJ cB adK adV adA h v H.size n h_9) (cwV 1 hts (tw_GV tw_cons cw_Model_say lk_Model_111 in_Model_say sel_Model_say ini_Model) rfl rfl rfl ⟨rfl, hd_Model_say⟩ ⟨Nat.le_of_ble_eq_true rfl, Nat.le_of_ble_eq_true rfl⟩) (ypV hK hP hD hS hE hFc yo_12 rfl) rfl rfl hl.1 rfl (lv_room (Nat.le_of_ble_eq_true rfl)) d_Model_show_116 ⟨Nat.le_of_ble_eq_true rfl, Nat.le_of_ble_eq_true rfl⟩) hS (fun q _ h => hFc q h) hFc (fun u9 t9 H locs ht hvm e9 hB hz1 hk1 hS => ?_)
          obtain ⟨hP, hD⟩ := y_aft hB ht hFc
          clear hFc hk1 hz1 hvm hB ht
          exact lb_Model_show_119 l dC dI cI cJ cB adK adV adA h v n hx hb hml hown hts hK hE hA hr hlocks (m_Model_show_b48 n f) ih _ _ _ _ _ _ _ _ hm _ _ _ hP hD hS (lv_sub hl [2, 3, 4, 1, 0] rfl)
      · replace hm := if_t c_7 hm
        obtain ⟨x_15, ex_15⟩ : ∃ y9 : Int32, y9 = v4 + (-1) := ⟨_, rfl⟩
        replace hm := ob1_at ex_15 hm
        refine lv_iinc (v := x_15) (lv' := [(4, .int x_15), (6, .int x_5), (5, .int x_3), (0, .ref h), (3, .int v3)]) hx hb d_Model_show_87 hl (k := 4) rfl (by rw [ex_15]; rfl) (by decide) rfl (fun ls hl => ?_)
        refine lv_iload hx hb d_Model_show_90 (lv_at hl 0 rfl) ?_
        refine lv_if_gt (tgt := 99) hx hb d_Model_show_92 (by decide) (fun c_16 => ?_) (fun c_16 => ?_)
        · replace hm := if_t c_16 hm
          exact lb_Model_show_99 l dC dI cI cJ cB adK adV adA h v n hx hb hml hown hts hK hE hA hr hlocks (m_Model_show_b48 n f) ih _ _ _ _ _ _ hm _ _ _ hP hD hS (lv_sub hl [3, 4, 0] rfl)
        · replace hm := if_f c_16 hm
          refine lv_iload_n hx hb d_Model_show_95 rfl (lv_at hl 4 rfl) ?_
          refine lv_if_ne (tgt := 48) hx hb d_Model_show_96 (by decide) (fun c_17 => ?_) (fun c_17 => ?_)
          · replace hm := if_f c_17 hm
            exact ih _ _ _ _ _ _ hm _ _ _ hP hD hS (lv_sub hl [3, 4, 0] rfl)
          · replace hm := if_t c_17 hm
            exact lb_Model_show_99 l dC dI cI cJ cB adK adV adA h v n hx hb hml hown hts hK hE hA hr hlocks (m_Model_show_b48 n f) ih _ _ _ _ _ _ hm _ _ _ hP hD hS (lv_sub hl [3, 4, 0] rfl)
def m_Model_show_b28 (n : Nat) (i : Nat → Int32) (j : Nat → Int64) (a : Nat → Nat → Int32) (b : Nat → Nat → Int64) (v1 : Int64) (v3 : Int32) : Option ((Nat → Int32) × (Nat → Int64) × (Nat → Nat → Int32) × (Nat → Nat → Int64) × Int32) := ob0 (m_Model_what n v1) (fun r_2 => ck ((0 : Int32)) 1300 (ob1 (sv a 26 (0 : Int32).toNatClampNeg r_2 : Nat → Nat → Int32) (fun a_4 => ck ((0 : Int32)) 1300 (ob1 (sv a_4 27 (0 : Int32).toNatClampNeg 0 : Nat → Nat → Int32) (fun a_6 => m_Model_show_b48 n n i j a_6 b v3 (1 : Int32))))))
set_option maxHeartbeats 4000000 in
set_option maxRecDepth 100000 in
theorem lb_Model_show_28 (l : Launch) (dC : Nat → ClassId) (dI : Nat → Nat → Nat) (cI cJ cB : ClassId) (adK adV adA : Nat → Nat) (h : Nat) (v : Nat → Nat) (n : Nat) {p : Program} {e : Env} {s : State} {m : MethodId} {args : Array Value} {below : List Frame} {meth : Method} {c : Code} {A : Nat → Prop} (hx : p.tables.exec = Jvm.exec) (hb : c.code = b_Model_show) (hml : c.maxLocals = 9) (hown : s.vm.findClass R_Model = some m.cls) (hts : ∀ w ∈ w_Model_show, w.before args s = true) (hK : va_K (dC, dI) classes [(cI, .int), (cJ, .long), (cB, .byte)] s) (hE : tw_E adK adV adA A s s.heap) (hA : ∀ q : Nat, s.heap.size ≤ q → A q) (hr : meth.sig.returnType = none) (hlocks : meth.locks = false) {i2 : Nat → Int32} {j2 : Nat → Int64} {a2 : Nat → Nat → Int32} {b2 : Nat → Nat → Int64} {r2 : Int32} (i : Nat → Int32) (j : Nat → Int64) (a : Nat → Nat → Int32) (b : Nat → Nat → Int64) (v1 : Int64) (v3 : Int32) (hm : m_Model_show_b28 n i j a b v1 v3 = some (i2, j2, a2, b2, r2)) : ∀ (H : Heap) (locs : List Loc) (ls : Array Slot), va_P (dC, dI) classes (MW cI cJ cB h v i j a b) H → va_D A (MW cI cJ cB h v i j a b) → va_S A s.heap H locs → lv_has ls 9 [(0, .ref h), (1, .long v1), (3, .int v3)] → W p l e ({ frames := 3, cells := 0, slots := 0, locals := 67 } : Room) s m args below meth c H locs 0 0 (MQ below (va_Qv xV (yB dC dI cI cJ cB h v i2 j2 a2 b2 A) A) args s 0 0 A) (F0 m 28 ls []) := by
  have htt : ∀ w ∈ tw_T, w.before _ s = true := fun w h => hts w (List.mem_cons_of_mem _ h)
  intro H locs ls hP hD hS hl
  rw [m_Model_show_b28] at hm
  refine lv_iconst (v := 1) hx hb d_Model_show_28 (by decide) ?_
  refine lv_istore (lv' := [(4, .int 1), (0, .ref h), (1, .long v1), (3, .int v3)]) hx hb d_Model_show_29 hl (by decide) rfl (fun ls hl => ?_)
  refine lv_aload_n hx hb d_Model_show_31 rfl (lv_at hl 1 rfl) ?_
  refine va_get (D := (dC, dI)) (ci := 12) (v := .ref ((v 26))) (C := R_Model) (T := F_Model) (N := 127) hx hb htt iw_Model hown hK hP 0 yo_12 rfl 26 (Nat.le_of_ble_eq_true rfl) (htt _ lk_Model_128) (fun _ h9 => h9) yg_26 d_Model_show_32 ?_
  refine lv_iconst (v := 0) hx hb d_Model_show_35 (by decide) ?_
  refine lv_lload_n hx hb d_Model_show_36 rfl (lv_at hl 2 rfl) ?_
  obtain ⟨r_2, h_1, hm⟩ := ob0_some hm
  have hFc := x_free0 hS hA
  refine va_calli (va_runS (As := [.long v1]) (rest := [.int 0, .ref ((v 26))]) ⟨hx, hb, hml, hown, hts⟩ (x_Model_what l H.size n h_1) (va_cwS 1 hts (tw_GS tw_cons cw_Model_what lk_Model_64 st_Model_what ini_Model) rfl rfl rfl hd_Model_what ⟨Nat.le_of_ble_eq_true rfl, Nat.le_of_ble_eq_true rfl⟩) xpS0 rfl rfl hl.1 rfl (lv_room (Nat.le_of_ble_eq_true rfl)) d_Model_show_37 ⟨Nat.le_of_ble_eq_true rfl, Nat.le_of_ble_eq_true rfl⟩) hS (fun q _ h => hFc q h) hFc (fun r9 u9 t9 H locs ht hvm e9 hB hz1 hk1 hS => ?_)
  have e9 : r_2 = r9 := e9
  subst e9
  replace hP := x_keep hP hk1
  clear hFc hk1 hz1 hvm hB ht
  obtain ⟨h_3, hm⟩ := ck_some hm
  refine va_iast hx hb hK hP hD hS 21 0 ya_26 rfl h_3 d_Model_show_40 (fun H locs hP hD hS => ?_)
  obtain ⟨a_4, ea_4⟩ : ∃ y9 : Nat → Nat → Int32, y9 = sv a 26 (0 : Int32).toNatClampNeg r_2 := ⟨_, rfl⟩
  replace hm := ob1_at ea_4 hm
  obtain ⟨hP, hD⟩ := yv_26 ea_4 hP hD
  refine lv_aload_n hx hb d_Model_show_41 rfl (lv_at hl 1 rfl) ?_
  refine va_get (D := (dC, dI)) (ci := 12) (v := .ref ((v 27))) (C := R_Model) (T := F_Model) (N := 127) hx hb htt iw_Model hown hK hP 0 yo_12 rfl 27 (Nat.le_of_ble_eq_true rfl) (htt _ lk_Model_131) (fun _ h9 => h9) yg_27 d_Model_show_42 ?_
  refine lv_iconst (v := 0) hx hb d_Model_show_45 (by decide) ?_
  refine lv_iconst (v := 0) hx hb d_Model_show_46 (by decide) ?_
  obtain ⟨h_5, hm⟩ := ck_some hm
  refine va_iast hx hb hK hP hD hS 22 0 ya_27 rfl h_5 d_Model_show_47 (fun H locs hP hD hS => ?_)
  obtain ⟨a_6, ea_6⟩ : ∃ y9 : Nat → Nat → Int32, y9 = sv a_4 27 (0 : Int32).toNatClampNeg 0 := ⟨_, rfl⟩
  replace hm := ob1_at ea_6 hm
  obtain ⟨hP, hD⟩ := yv_27 ea_6 hP hD
  exact lb_Model_show_48 l dC dI cI cJ cB adK adV adA h v n hx hb hml hown hts hK hE hA hr hlocks n _ _ _ _ _ _ hm _ _ _ hP hD hS (lv_sub hl [1, 3, 0] rfl)
def m_Model_show (n : Nat) (i : Nat → Int32) (j : Nat → Int64) (a : Nat → Nat → Int32) (b : Nat → Nat → Int64) (v1 : Int64) (v3 : Int32) : Option ((Nat → Int32) × (Nat → Int64) × (Nat → Nat → Int32) × (Nat → Nat → Int64) × Int32) := ob1 (upd i 25 0 : Nat → Int32) (fun i_1 => ob0 (m_Model_isList n v1) (fun r_3 => if r_3 = ((0 : Int32)) then om (m_Model_sayFlat n i_1 j a b v1) (fun i_13 j_14 a_15 b_16 r_17 => some (i_13, j_14, a_15, b_16, (0 : Int32))) else if v3 = ((0 : Int32)) then om (m_Model_say n i_1 j a b (91 : Int32)) (fun i_7 j_8 a_9 b_10 r_11 => m_Model_show_b28 n i_7 j_8 a_9 b_10 v1 v3) else m_Model_show_b28 n i_1 j a b v1 v3))
set_option maxHeartbeats 4000000 in
set_option maxRecDepth 100000 in
theorem x_Model_show (l : Launch) (dC : Nat → ClassId) (dI : Nat → Nat → Nat) (cI cJ cB : ClassId) (adK adV adA : Nat → Nat) (h : Nat) (v : Nat → Nat) (sz : Nat) (n : Nat) {i : Nat → Int32} {j : Nat → Int64} {a : Nat → Nat → Int32} {b : Nat → Nat → Int64} {v1 : Int64} {v3 : Int32} {i2 : Nat → Int32} {j2 : Nat → Int64} {a2 : Nat → Nat → Int32} {b2 : Nat → Nat → Int64} {r2 : Int32} (hm : m_Model_show n i j a b v1 v3 = some (i2, j2, a2, b2, r2)) : Met l y_Model_show w_Model_show ({ frames := 3, cells := 0, slots := 0, locals := 67 } : Room) (va_Pc [.ref h, .long v1, .int v3] (yE dC dI cI cJ cB adK adV adA h v i j a b sz)) (va_Qv xV (yB dC dI cI cJ cB h v i2 j2 a2 b2 (va_A (MW cI cJ cB h v i j a b) sz)) (va_A (MW cI cJ cB h v i j a b) sz)) 0 0 ((va_A (MW cI cJ cB h v i j a b) sz)) := by
  refine Met.ofW (cc := b_Model_show) (maxL := 9) (ret := none) (by decide) rfl ?_
  intro p e s m args below meth c s₁ B hml hv
  obtain ⟨rfl, hsz, hP, hK, hE, hD0⟩ := hv
  have hx := B.exec
  have hb := B.bytes
  have hr := B.returns
  have hts := atoms_spec (ws := w_Model_show) B.pre
  have htt : ∀ w ∈ tw_T, w.before _ s = true := fun w h => hts w (List.mem_cons_of_mem _ h)
  have hown : s.vm.findClass R_Model = some m.cls := findClass_of_methodNamed B.named
  have hlocks := B.notSynchronized
  subst hsz
  have hD := hD0.self (sz := s.heap.size)
  generalize hAe : (va_A (MW cI cJ cB h v i j a b) s.heap.size) = A at hD hE ⊢
  have hA : ∀ q : Nat, s.heap.size ≤ q → A q := fun q h => by rw [← hAe]; exact Or.inr h
  have hS : va_S A s.heap s.heap [] := va_S.rf
  have hl := lv_entry ([.ref h, .long v1, .int v3]) (n := 9) (Nat.le_of_ble_eq_true rfl)
  rw [lg_entry_eq]
  generalize (lg_sl ([.ref h, .long v1, .int v3]) ++ List.replicate (9 - (lg_sl ([.ref h, .long v1, .int v3])).length) Slot.unset).toArray = ls at hl ⊢
  have hl : lv_has ls 9 [(0, .ref h), (1, .long v1), (3, .int v3)] := hl
  rw [m_Model_show] at hm
  refine lv_aload_n hx hb d_Model_show_0 rfl (lv_at hl 0 rfl) ?_
  refine lv_iconst (v := 0) hx hb d_Model_show_1 (by decide) ?_
  refine va_put (D := (dC, dI)) (ci := 12) (v := .int 0) (ty := .int) (C := R_Model) (T := F_Model) (N := 127) hx hb htt iw_Model t_Model t_Model_ok n_Model hown hK hP hD hS 0 yo_12 rfl 25 (Nat.le_of_ble_eq_true rfl) (htt _ lk_Model_108) (fun _ h9 => h9) rfl (by decide +kernel) rfl rfl yl_25 d_Model_show_2 (fun H locs hP hD hS => ?_)
  obtain ⟨i_1, ei_1⟩ : ∃ y9 : Nat → Int32, y9 = upd i 25 0 := ⟨_, rfl⟩
  replace hm := ob1_at ei_1 hm
  obtain ⟨hP, hD⟩ := yw_25 ei_1 hP hD
  refine lv_lload_n hx hb d_Model_show_5 rfl (lv_at hl 1 rfl) ?_
  obtain ⟨r_3, h_2, hm⟩ := ob0_some hm
  have hFc := x_free0 hS hA
  refine va_calli (va_runS (As := [.long v1]) (rest := []) ⟨hx, hb, hml, hown, hts⟩ (x_Model_isList l H.size n h_2) (va_cwS 1 hts (tw_GS tw_cons cw_Model_isList lk_Model_95 st_Model_isList ini_Model) rfl rfl rfl hd_Model_isList ⟨Nat.le_of_ble_eq_true rfl, Nat.le_of_ble_eq_true rfl⟩) xpS0 rfl rfl hl.1 rfl (lv_room (Nat.le_of_ble_eq_true rfl)) d_Model_show_6 ⟨Nat.le_of_ble_eq_true rfl, Nat.le_of_ble_eq_true rfl⟩) hS (fun q _ h => hFc q h) hFc (fun r9 u9 t9 H locs ht hvm e9 hB hz1 hk1 hS => ?_)
  have e9 : r_3 = r9 := e9
  subst e9
  replace hP := x_keep hP hk1
  clear hFc hk1 hz1 hvm hB ht
  refine lv_if_ne (tgt := 18) hx hb d_Model_show_9 (by decide) (fun c_4 => ?_) (fun c_4 => ?_)
  · replace hm := if_f c_4 hm
    refine lv_iload_n hx hb d_Model_show_18 rfl (lv_at hl 2 rfl) ?_
    refine lv_if_ne (tgt := 28) hx hb d_Model_show_19 (by decide) (fun c_5 => ?_) (fun c_5 => ?_)
    · replace hm := if_f c_5 hm
      exact lb_Model_show_28 l dC dI cI cJ cB adK adV adA h v n hx hb hml hown hts hK hE hA hr hlocks _ _ _ _ _ _ hm _ _ _ hP hD hS (lv_sub hl [0, 1, 2] rfl)
    · replace hm := if_t c_5 hm
      refine lv_aload_n hx hb d_Model_show_22 rfl (lv_at hl 0 rfl) ?_
      refine lv_bipush (v := 91) hx hb d_Model_show_23 (by decide) ?_
      obtain ⟨i_7, j_8, a_9, b_10, r_11, h_6, hm⟩ := om_some hm
      have hFc := x_free hD hS hA
      refine va_callv (va_runV (As := [.int 91]) (rest := []) ⟨hx, hb, hml, hown, hts⟩ (x_Model_say l dC dI cI cJ cB adK adV adA h v H.size n h_6) (cwV 1 hts (tw_GV tw_cons cw_Model_say lk_Model_111 in_Model_say sel_Model_say ini_Model) rfl rfl rfl ⟨rfl, hd_Model_say⟩ ⟨Nat.le_of_ble_eq_true rfl, Nat.le_of_ble_eq_true rfl⟩) (ypV hK hP hD hS hE hFc yo_12 rfl) rfl rfl hl.1 rfl (lv_room (Nat.le_of_ble_eq_true rfl)) d_Model_show_25 ⟨Nat.le_of_ble_eq_true rfl, Nat.le_of_ble_eq_true rfl⟩) hS (fun q _ h => hFc q h) hFc (fun u9 t9 H locs ht hvm e9 hB hz1 hk1 hS => ?_)
      obtain ⟨hP, hD⟩ := y_aft hB ht hFc
      clear hFc hk1 hz1 hvm hB ht
      exact lb_Model_show_28 l dC dI cI cJ cB adK adV adA h v n hx hb hml hown hts hK hE hA hr hlocks _ _ _ _ _ _ hm _ _ _ hP hD hS (lv_sub hl [0, 1, 2] rfl)
  · replace hm := if_t c_4 hm
    refine lv_aload_n hx hb d_Model_show_12 rfl (lv_at hl 0 rfl) ?_
    refine lv_lload_n hx hb d_Model_show_13 rfl (lv_at hl 1 rfl) ?_
    obtain ⟨i_13, j_14, a_15, b_16, r_17, h_12, hm⟩ := om_some hm
    have hFc := x_free hD hS hA
    refine va_callv (va_runV (As := [.long v1]) (rest := []) ⟨hx, hb, hml, hown, hts⟩ (x_Model_sayFlat l dC dI cI cJ cB adK adV adA h v H.size n h_12) (cwV 1 hts (tw_GV tw_cons cw_Model_sayFlat lk_Model_124 in_Model_sayFlat sel_Model_sayFlat ini_Model) rfl rfl rfl ⟨rfl, hd_Model_sayFlat⟩ ⟨Nat.le_of_ble_eq_true rfl, Nat.le_of_ble_eq_true rfl⟩) (ypV hK hP hD hS hE hFc yo_12 rfl) rfl rfl hl.1 rfl (lv_room (Nat.le_of_ble_eq_true rfl)) d_Model_show_14 ⟨Nat.le_of_ble_eq_true rfl, Nat.le_of_ble_eq_true rfl⟩) hS (fun q _ h => hFc q h) hFc (fun u9 t9 H locs ht hvm e9 hB hz1 hk1 hS => ?_)
    obtain ⟨hP, hD⟩ := y_aft hB ht hFc
    clear hFc hk1 hz1 hvm hB ht
    obtain ⟨e1i, e1j, e1a, e1b, e3⟩ := re4m hm
    obtain ⟨hP, hD⟩ := y_eq e1i e1j e1a e1b hP hD
    exact W.vret hx hb hr (fun t9 ht hW => ⟨⟨(), rfl, trivial, by rw [ht]; exact hP, hD⟩, hS.F ht⟩) hS.2.2 d_Model_show_17

def m_Model_binary_b97 (n : Nat) (i : Nat → Int32) (j : Nat → Int64) (a : Nat → Nat → Int32) (b : Nat → Nat → Int64) (v2 : Int64) (v4 : Int64) (s0 : Int32) : Option ((Nat → Int32) × (Nat → Int64) × (Nat → Nat → Int32) × (Nat → Nat → Int64) × Int64) := ob0 (m_Model_what n v2) (fun r_2 => ob0 (m_Model_what n v4) (fun r_4 => om (m_Model_numbers n i j a b s0 r_2 r_4) (fun i_6 j_7 a_8 b_9 r_10 => some (i_6, j_7, a_8, b_9, r_10))))
set_option maxHeartbeats 4000000 in
set_option maxRecDepth 100000 in
theorem lb_Model_binary_97 (l : Launch) (dC : Nat → ClassId) (dI : Nat → Nat → Nat) (cI cJ cB : ClassId) (adK adV adA : Nat → Nat) (h : Nat) (v : Nat → Nat) (n : Nat) {p : Program} {e : Env} {s : State} {m : MethodId} {args : Array Value} {below : List Frame} {meth : Method} {c : Code} {A : Nat → Prop} (hx : p.tables.exec = Jvm.exec) (hb : c.code = b_Model_binary) (hml : c.maxLocals = 6) (hown : s.vm.findClass R_Model = some m.cls) (hts : ∀ w ∈ w_Model_binary, w.before args s = true) (hK : va_K (dC, dI) classes [(cI, .int), (cJ, .long), (cB, .byte)] s) (hE : tw_E adK adV adA A s s.heap) (hA : ∀ q : Nat, s.heap.size ≤ q → A q) (hr : meth.sig.returnType = (some .long)) (hlocks : meth.locks = false) {i2 : Nat → Int32} {j2 : Nat → Int64} {a2 : Nat → Nat → Int32} {b2 : Nat → Nat → Int64} {r2 : Int64} (i : Nat → Int32) (j : Nat → Int64) (a : Nat → Nat → Int32) (b : Nat → Nat → Int64) (v2 : Int64) (v4 : Int64) (s0 : Int32) (hm : m_Model_binary_b97 n i j a b v2 v4 s0 = some (i2, j2, a2, b2, r2)) : ∀ (H : Heap) (locs : List Loc) (ls : Array Slot), va_P (dC, dI) classes (MW cI cJ cB h v i j a b) H → va_D A (MW cI cJ cB h v i j a b) → va_S A s.heap H locs → lv_has ls 6 [(2, .long v2), (4, .long v4)] → W p l e ({ frames := 3, cells := 0, slots := 0, locals := 77 } : Room) s m args below meth c H locs 0 0 (MQ below (va_Ql (xR r2) (yB dC dI cI cJ cB h v i2 j2 a2 b2 A) A) args s 0 0 A) (F0 m 97 ls [.int s0, .ref h]) := by
  have htt : ∀ w ∈ tw_T, w.before _ s = true := fun w h => hts w (List.mem_cons_of_mem _ h)
  intro H locs ls hP hD hS hl
  rw [m_Model_binary_b97] at hm
  refine lv_lload_n hx hb d_Model_binary_97 rfl (lv_at hl 0 rfl) ?_
  obtain ⟨r_2, h_1, hm⟩ := ob0_some hm
  have hFc := x_free0 hS hA
  refine va_calli (va_runS (As := [.long v2]) (rest := [.int s0, .ref h]) ⟨hx, hb, hml, hown, hts⟩ (x_Model_what l H.size n h_1) (va_cwS 1 hts (tw_GS tw_cons cw_Model_what lk_Model_64 st_Model_what ini_Model) rfl rfl rfl hd_Model_what ⟨Nat.le_of_ble_eq_true rfl, Nat.le_of_ble_eq_true rfl⟩) xpS0 rfl rfl hl.1 rfl (lv_room (Nat.le_of_ble_eq_true rfl)) d_Model_binary_98 ⟨Nat.le_of_ble_eq_true rfl, Nat.le_of_ble_eq_true rfl⟩) hS (fun q _ h => hFc q h) hFc (fun r9 u9 t9 H locs ht hvm e9 hB hz1 hk1 hS => ?_)
  have e9 : r_2 = r9 := e9
  subst e9
  replace hP := x_keep hP hk1
  clear hFc hk1 hz1 hvm hB ht
  refine lv_lload hx hb d_Model_binary_101 (lv_at hl 1 rfl) ?_
  obtain ⟨r_4, h_3, hm⟩ := ob0_some hm
  have hFc := x_free0 hS hA
  refine va_calli (va_runS (As := [.long v4]) (rest := [.int r_2, .int s0, .ref h]) ⟨hx, hb, hml, hown, hts⟩ (x_Model_what l H.size n h_3) (va_cwS 1 hts (tw_GS tw_cons cw_Model_what lk_Model_64 st_Model_what ini_Model) rfl rfl rfl hd_Model_what ⟨Nat.le_of_ble_eq_true rfl, Nat.le_of_ble_eq_true rfl⟩) xpS0 rfl rfl hl.1 rfl (lv_room (Nat.le_of_ble_eq_true rfl)) d_Model_binary_103 ⟨Nat.le_of_ble_eq_true rfl, Nat.le_of_ble_eq_true rfl⟩) hS (fun q _ h => hFc q h) hFc (fun r9 u9 t9 H locs ht hvm e9 hB hz1 hk1 hS => ?_)
  have e9 : r_4 = r9 := e9
  subst e9
  replace hP := x_keep hP hk1
  clear hFc hk1 hz1 hvm hB ht
  obtain ⟨i_6, j_7, a_8, b_9, r_10, h_5, hm⟩ := om_some hm
  have hFc := x_free hD hS hA
  refine va_calll (va_runV (As := [.int s0, .int r_2, .int r_4]) (rest := []) ⟨hx, hb, hml, hown, hts⟩ (x_Model_numbers l dC dI cI cJ cB adK adV adA h v H.size n h_5) (cwV 3 hts (tw_GV tw_cons cw_Model_numbers lk_Model_725 in_Model_numbers sel_Model_numbers ini_Model) rfl rfl rfl ⟨rfl, hd_Model_numbers⟩ ⟨Nat.le_of_ble_eq_true rfl, Nat.le_of_ble_eq_true rfl⟩) (ypV hK hP hD hS hE hFc yo_12 rfl) rfl rfl hl.1 rfl (lv_room (Nat.le_of_ble_eq_true rfl)) d_Model_binary_106 ⟨Nat.le_of_ble_eq_true rfl, Nat.le_of_ble_eq_true rfl⟩) hS (fun q _ h => hFc q h) hFc (fun r9 u9 t9 H locs ht hvm e9 hB hz1 hk1 hS => ?_)
  have e9 : r_10 = r9 := e9
  subst e9
  obtain ⟨hP, hD⟩ := y_aft hB ht hFc
  clear hFc hk1 hz1 hvm hB ht
  obtain ⟨e1i, e1j, e1a, e1b, e3⟩ := re4m hm
  obtain ⟨hP, hD⟩ := y_eq e1i e1j e1a e1b hP hD
  exact W.lret hx hb hr (fun t9 ht hW => ⟨⟨_, (), rfl, e3.symm, by rw [ht]; exact hP, hD⟩, hS.F ht⟩) hS.2.2 d_Model_binary_109
def m_Model_binary (n : Nat) (i : Nat → Int32) (j : Nat → Int64) (a : Nat → Nat → Int32) (b : Nat → Nat → Int64) (v1 : Int32) (v2 : Int64) (v4 : Int64) : Option ((Nat → Int32) × (Nat → Int64) × (Nat → Nat → Int32) × (Nat → Nat → Int64) × Int64) := if v1 = ((61 : Int32)) then om (m_Model_equal n i j a b v2 v4) (fun i_26 j_27 a_28 b_29 r_30 => ob0 (m_Model_truth n i_26 j_27 a_28 b_29 r_30) (fun r_32 => some (i_26, j_27, a_28, b_29, r_32))) else ob0 (m_Model_isNumber n v2) (fun r_3 => if r_3 = ((0 : Int32)) then om (m_Model_fails n i j a b (3 : Int32)) (fun i_6 j_7 a_8 b_9 r_10 => some (i_6, j_7, a_8, b_9, r_10)) else ob0 (m_Model_isNumber n v4) (fun r_12 => if r_12 = ((0 : Int32)) then om (m_Model_fails n i j a b (3 : Int32)) (fun i_20 j_21 a_22 b_23 r_24 => some (i_20, j_21, a_22, b_23, r_24)) else if v1 = ((60 : Int32)) then m_Model_binary_b97 n i j a b v2 v4 (25 : Int32) else if v1 = ((62 : Int32)) then m_Model_binary_b97 n i j a b v2 v4 (26 : Int32) else if v1 = ((43 : Int32)) then m_Model_binary_b97 n i j a b v2 v4 (19 : Int32) else if v1 = ((45 : Int32)) then m_Model_binary_b97 n i j a b v2 v4 (20 : Int32) else if v1 = ((42 : Int32)) then m_Model_binary_b97 n i j a b v2 v4 (21 : Int32) else m_Model_binary_b97 n i j a b v2 v4 (22 : Int32)))
set_option maxHeartbeats 4000000 in
set_option maxRecDepth 100000 in
theorem x_Model_binary (l : Launch) (dC : Nat → ClassId) (dI : Nat → Nat → Nat) (cI cJ cB : ClassId) (adK adV adA : Nat → Nat) (h : Nat) (v : Nat → Nat) (sz : Nat) (n : Nat) {i : Nat → Int32} {j : Nat → Int64} {a : Nat → Nat → Int32} {b : Nat → Nat → Int64} {v1 : Int32} {v2 : Int64} {v4 : Int64} {i2 : Nat → Int32} {j2 : Nat → Int64} {a2 : Nat → Nat → Int32} {b2 : Nat → Nat → Int64} {r2 : Int64} (hm : m_Model_binary n i j a b v1 v2 v4 = some (i2, j2, a2, b2, r2)) : Met l y_Model_binary w_Model_binary ({ frames := 3, cells := 0, slots := 0, locals := 77 } : Room) (va_Pc [.ref h, .int v1, .long v2, .long v4] (yE dC dI cI cJ cB adK adV adA h v i j a b sz)) (va_Ql (xR r2) (yB dC dI cI cJ cB h v i2 j2 a2 b2 (va_A (MW cI cJ cB h v i j a b) sz)) (va_A (MW cI cJ cB h v i j a b) sz)) 0 0 ((va_A (MW cI cJ cB h v i j a b) sz)) := by
  refine Met.ofW (cc := b_Model_binary) (maxL := 6) (ret := (some .long)) (by decide) rfl ?_
  intro p e s m args below meth c s₁ B hml hv
  obtain ⟨rfl, hsz, hP, hK, hE, hD0⟩ := hv
  have hx := B.exec
  have hb := B.bytes
  have hr := B.returns
  have hts := atoms_spec (ws := w_Model_binary) B.pre
  have htt : ∀ w ∈ tw_T, w.before _ s = true := fun w h => hts w (List.mem_cons_of_mem _ h)
  have hown : s.vm.findClass R_Model = some m.cls := findClass_of_methodNamed B.named
  have hlocks := B.notSynchronized
  subst hsz
  have hD := hD0.self (sz := s.heap.size)
  generalize hAe : (va_A (MW cI cJ cB h v i j a b) s.heap.size) = A at hD hE ⊢
  have hA : ∀ q : Nat, s.heap.size ≤ q → A q := fun q h => by rw [← hAe]; exact Or.inr h
  have hS : va_S A s.heap s.heap [] := va_S.rf
  have hl := lv_entry ([.ref h, .int v1, .long v2, .long v4]) (n := 6) (Nat.le_of_ble_eq_true rfl)
  rw [lg_entry_eq]
  generalize (lg_sl ([.ref h, .int v1, .long v2, .long v4]) ++ List.replicate (6 - (lg_sl ([.ref h, .int v1, .long v2, .long v4])).length) Slot.unset).toArray = ls at hl ⊢
  have hl : lv_has ls 6 [(0, .ref h), (1, .int v1), (2, .long v2), (4, .long v4)] := hl
  rw [m_Model_binary] at hm
  refine lv_iload_n hx hb d_Model_binary_0 rfl (lv_at hl 1 rfl) ?_
  refine lv_bipush (v := 61) hx hb d_Model_binary_1 (by decide) ?_
  refine lv_icmp_ne (tgt := 18) hx hb d_Model_binary_3 (by decide) (fun c_1 => ?_) (fun c_1 => ?_)
  · replace hm := if_f c_1 hm
    refine lv_lload_n hx hb d_Model_binary_18 rfl (lv_at hl 2 rfl) ?_
    obtain ⟨r_3, h_2, hm⟩ := ob0_some hm
    have hFc := x_free0 hS hA
    refine va_calli (va_runS (As := [.long v2]) (rest := []) ⟨hx, hb, hml, hown, hts⟩ (x_Model_isNumber l s.heap.size n h_2) (va_cwS 1 hts (tw_GS tw_cons cw_Model_isNumber lk_Model_57 st_Model_isNumber ini_Model) rfl rfl rfl hd_Model_isNumber ⟨Nat.le_of_ble_eq_true rfl, Nat.le_of_ble_eq_true rfl⟩) xpS0 rfl rfl hl.1 rfl (lv_room (Nat.le_of_ble_eq_true rfl)) d_Model_binary_19 ⟨Nat.le_of_ble_eq_true rfl, Nat.le_of_ble_eq_true rfl⟩) hS (fun q _ h => hFc q h) hFc (fun r9 u9 t9 H locs ht hvm e9 hB hz1 hk1 hS => ?_)
    have e9 : r_3 = r9 := e9
    subst e9
    replace hP := x_keep hP hk1
    clear hFc hk1 hz1 hvm hB ht
    refine lv_if_eq (tgt := 33) hx hb d_Model_binary_22 (by decide) (fun c_4 => ?_) (fun c_4 => ?_)
    · replace hm := if_t c_4 hm
      refine lv_aload_n hx hb d_Model_binary_33 rfl (lv_at hl 0 rfl) ?_
      refine lv_iconst (v := 3) hx hb d_Model_binary_34 (by decide) ?_
      obtain ⟨i_6, j_7, a_8, b_9, r_10, h_5, hm⟩ := om_some hm
      have hFc := x_free hD hS hA
      refine va_calll (va_runV (As := [.int 3]) (rest := []) ⟨hx, hb, hml, hown, hts⟩ (x_Model_fails l dC dI cI cJ cB adK adV adA h v H.size n h_5) (cwV 1 hts (tw_GV tw_cons cw_Model_fails lk_Model_596 in_Model_fails sel_Model_fails ini_Model) rfl rfl rfl ⟨rfl, hd_Model_fails⟩ ⟨Nat.le_of_ble_eq_true rfl, Nat.le_of_ble_eq_true rfl⟩) (ypV hK hP hD hS hE hFc yo_12 rfl) rfl rfl hl.1 rfl (lv_room (Nat.le_of_ble_eq_true rfl)) d_Model_binary_35 ⟨Nat.le_of_ble_eq_true rfl, Nat.le_of_ble_eq_true rfl⟩) hS (fun q _ h => hFc q h) hFc (fun r9 u9 t9 H locs ht hvm e9 hB hz1 hk1 hS => ?_)
      have e9 : r_10 = r9 := e9
      subst e9
      obtain ⟨hP, hD⟩ := y_aft hB ht hFc
      clear hFc hk1 hz1 hvm hB ht
      obtain ⟨e1i, e1j, e1a, e1b, e3⟩ := re4m hm
      obtain ⟨hP, hD⟩ := y_eq e1i e1j e1a e1b hP hD
      exact W.lret hx hb hr (fun t9 ht hW => ⟨⟨_, (), rfl, e3.symm, by rw [ht]; exact hP, hD⟩, hS.F ht⟩) hS.2.2 d_Model_binary_38
    · replace hm := if_f c_4 hm
      refine lv_lload hx hb d_Model_binary_25 (lv_at hl 3 rfl) ?_
      obtain ⟨r_12, h_11, hm⟩ := ob0_some hm
      have hFc := x_free0 hS hA
      refine va_calli (va_runS (As := [.long v4]) (rest := []) ⟨hx, hb, hml, hown, hts⟩ (x_Model_isNumber l H.size n h_11) (va_cwS 1 hts (tw_GS tw_cons cw_Model_isNumber lk_Model_57 st_Model_isNumber ini_Model) rfl rfl rfl hd_Model_isNumber ⟨Nat.le_of_ble_eq_true rfl, Nat.le_of_ble_eq_true rfl⟩) xpS0 rfl rfl hl.1 rfl (lv_room (Nat.le_of_ble_eq_true rfl)) d_Model_binary_27 ⟨Nat.le_of_ble_eq_true rfl, Nat.le_of_ble_eq_true rfl⟩) hS (fun q _ h => hFc q h) hFc (fun r9 u9 t9 H locs ht hvm e9 hB hz1 hk1 hS => ?_)
      have e9 : r_12 = r9 := e9
      subst e9
      replace hP := x_keep hP hk1
      clear hFc hk1 hz1 hvm hB ht
      refine lv_if_ne (tgt := 39) hx hb d_Model_binary_30 (by decide) (fun c_13 => ?_) (fun c_13 => ?_)
      · replace hm := if_f c_13 hm
        refine lv_aload_n hx hb d_Model_binary_39 rfl (lv_at hl 0 rfl) ?_
        refine lv_iload_n hx hb d_Model_binary_40 rfl (lv_at hl 1 rfl) ?_
        refine lv_bipush (v := 60) hx hb d_Model_binary_41 (by decide) ?_
        refine lv_icmp_ne (tgt := 51) hx hb d_Model_binary_43 (by decide) (fun c_14 => ?_) (fun c_14 => ?_)
        · replace hm := if_f c_14 hm
          refine lv_iload_n hx hb d_Model_binary_51 rfl (lv_at hl 1 rfl) ?_
          refine lv_bipush (v := 62) hx hb d_Model_binary_52 (by decide) ?_
          refine lv_icmp_ne (tgt := 62) hx hb d_Model_binary_54 (by decide) (fun c_15 => ?_) (fun c_15 => ?_)
          · replace hm := if_f c_15 hm
            refine lv_iload_n hx hb d_Model_binary_62 rfl (lv_at hl 1 rfl) ?_
            refine lv_bipush (v := 43) hx hb d_Model_binary_63 (by decide) ?_
            refine lv_icmp_ne (tgt := 73) hx hb d_Model_binary_65 (by decide) (fun c_16 => ?_) (fun c_16 => ?_)
            · replace hm := if_f c_16 hm
              refine lv_iload_n hx hb d_Model_binary_73 rfl (lv_at hl 1 rfl) ?_
              refine lv_bipush (v := 45) hx hb d_Model_binary_74 (by decide) ?_
              refine lv_icmp_ne (tgt := 84) hx hb d_Model_binary_76 (by decide) (fun c_17 => ?_) (fun c_17 => ?_)
              · replace hm := if_f c_17 hm
                refine lv_iload_n hx hb d_Model_binary_84 rfl (lv_at hl 1 rfl) ?_
                refine lv_bipush (v := 42) hx hb d_Model_binary_85 (by decide) ?_
                refine lv_icmp_ne (tgt := 95) hx hb d_Model_binary_87 (by decide) (fun c_18 => ?_) (fun c_18 => ?_)
                · replace hm := if_f c_18 hm
                  refine lv_bipush (v := 22) hx hb d_Model_binary_95 (by decide) ?_
                  exact lb_Model_binary_97 l dC dI cI cJ cB adK adV adA h v n hx hb hml hown hts hK hE hA hr hlocks _ _ _ _ _ _ _ hm _ _ _ hP hD hS (lv_sub hl [2, 3] rfl)
                · replace hm := if_t c_18 hm
                  refine lv_bipush (v := 21) hx hb d_Model_binary_90 (by decide) ?_
                  refine lv_goto (tgt := 97) hx hb d_Model_binary_92 (by decide) ?_
                  exact lb_Model_binary_97 l dC dI cI cJ cB adK adV adA h v n hx hb hml hown hts hK hE hA hr hlocks _ _ _ _ _ _ _ hm _ _ _ hP hD hS (lv_sub hl [2, 3] rfl)
              · replace hm := if_t c_17 hm
                refine lv_bipush (v := 20) hx hb d_Model_binary_79 (by decide) ?_
                refine lv_goto (tgt := 97) hx hb d_Model_binary_81 (by decide) ?_
                exact lb_Model_binary_97 l dC dI cI cJ cB adK adV adA h v n hx hb hml hown hts hK hE hA hr hlocks _ _ _ _ _ _ _ hm _ _ _ hP hD hS (lv_sub hl [2, 3] rfl)
            · replace hm := if_t c_16 hm
              refine lv_bipush (v := 19) hx hb d_Model_binary_68 (by decide) ?_
              refine lv_goto (tgt := 97) hx hb d_Model_binary_70 (by decide) ?_
              exact lb_Model_binary_97 l dC dI cI cJ cB adK adV adA h v n hx hb hml hown hts hK hE hA hr hlocks _ _ _ _ _ _ _ hm _ _ _ hP hD hS (lv_sub hl [2, 3] rfl)
          · replace hm := if_t c_15 hm
            refine lv_bipush (v := 26) hx hb d_Model_binary_57 (by decide) ?_
            refine lv_goto (tgt := 97) hx hb d_Model_binary_59 (by decide) ?_
            exact lb_Model_binary_97 l dC dI cI cJ cB adK adV adA h v n hx hb hml hown hts hK hE hA hr hlocks _ _ _ _ _ _ _ hm _ _ _ hP hD hS (lv_sub hl [2, 3] rfl)
        · replace hm := if_t c_14 hm
          refine lv_bipush (v := 25) hx hb d_Model_binary_46 (by decide) ?_
          refine lv_goto (tgt := 97) hx hb d_Model_binary_48 (by decide) ?_
          exact lb_Model_binary_97 l dC dI cI cJ cB adK adV adA h v n hx hb hml hown hts hK hE hA hr hlocks _ _ _ _ _ _ _ hm _ _ _ hP hD hS (lv_sub hl [2, 3] rfl)
      · replace hm := if_t c_13 hm
        refine lv_aload_n hx hb d_Model_binary_33 rfl (lv_at hl 0 rfl) ?_
        refine lv_iconst (v := 3) hx hb d_Model_binary_34 (by decide) ?_
        obtain ⟨i_20, j_21, a_22, b_23, r_24, h_19, hm⟩ := om_some hm
        have hFc := x_free hD hS hA
        refine va_calll (va_runV (As := [.int 3]) (rest := []) ⟨hx, hb, hml, hown, hts⟩ (x_Model_fails l dC dI cI cJ cB adK adV adA h v H.size n h_19) (cwV 1 hts (tw_GV tw_cons cw_Model_fails lk_Model_596 in_Model_fails sel_Model_fails ini_Model) rfl rfl rfl ⟨rfl, hd_Model_fails⟩ ⟨Nat.le_of_ble_eq_true rfl, Nat.le_of_ble_eq_true rfl⟩) (ypV hK hP hD hS hE hFc yo_12 rfl) rfl rfl hl.1 rfl (lv_room (Nat.le_of_ble_eq_true rfl)) d_Model_binary_35 ⟨Nat.le_of_ble_eq_true rfl, Nat.le_of_ble_eq_true rfl⟩) hS (fun q _ h => hFc q h) hFc (fun r9 u9 t9 H locs ht hvm e9 hB hz1 hk1 hS => ?_)
        have e9 : r_24 = r9 := e9
        subst e9
        obtain ⟨hP, hD⟩ := y_aft hB ht hFc
        clear hFc hk1 hz1 hvm hB ht
        obtain ⟨e1i, e1j, e1a, e1b, e3⟩ := re4m hm
        obtain ⟨hP, hD⟩ := y_eq e1i e1j e1a e1b hP hD
        exact W.lret hx hb hr (fun t9 ht hW => ⟨⟨_, (), rfl, e3.symm, by rw [ht]; exact hP, hD⟩, hS.F ht⟩) hS.2.2 d_Model_binary_38
  · replace hm := if_t c_1 hm
    refine lv_aload_n hx hb d_Model_binary_6 rfl (lv_at hl 0 rfl) ?_
    refine lv_aload_n hx hb d_Model_binary_7 rfl (lv_at hl 0 rfl) ?_
    refine lv_lload_n hx hb d_Model_binary_8 rfl (lv_at hl 2 rfl) ?_
    refine lv_lload hx hb d_Model_binary_9 (lv_at hl 3 rfl) ?_
    obtain ⟨i_26, j_27, a_28, b_29, r_30, h_25, hm⟩ := om_some hm
    have hFc := x_free hD hS hA
    refine va_calli (va_runV (As := [.long v2, .long v4]) (rest := [.ref h]) ⟨hx, hb, hml, hown, hts⟩ (x_Model_equal l dC dI cI cJ cB adK adV adA h v s.heap.size n h_25) (cwV 2 hts (tw_GV tw_cons cw_Model_equal lk_Model_717 in_Model_equal sel_Model_equal ini_Model) rfl rfl rfl ⟨rfl, hd_Model_equal⟩ ⟨Nat.le_of_ble_eq_true rfl, Nat.le_of_ble_eq_true rfl⟩) (ypV hK hP hD hS hE hFc yo_12 rfl) rfl rfl hl.1 rfl (lv_room (Nat.le_of_ble_eq_true rfl)) d_Model_binary_11 ⟨Nat.le_of_ble_eq_true rfl, Nat.le_of_ble_eq_true rfl⟩) hS (fun q _ h => hFc q h) hFc (fun r9 u9 t9 H locs ht hvm e9 hB hz1 hk1 hS => ?_)
    have e9 : r_30 = r9 := e9
    subst e9
    obtain ⟨hP, hD⟩ := y_aft hB ht hFc
    clear hFc hk1 hz1 hvm hB ht
    obtain ⟨r_32, h_31, hm⟩ := ob0_some hm
    have hFc := x_free0 hS hA
    refine va_calll (va_runV (As := [.int r_30]) (rest := []) ⟨hx, hb, hml, hown, hts⟩ (x_Model_truth l dC dI cI cJ cB adK adV adA h v H.size n h_31) (cwV 1 hts (tw_GV tw_cons cw_Model_truth lk_Model_721 in_Model_truth sel_Model_truth ini_Model) rfl rfl rfl ⟨rfl, hd_Model_truth⟩ ⟨Nat.le_of_ble_eq_true rfl, Nat.le_of_ble_eq_true rfl⟩) (ypVr hK hP hS hE hFc yo_12 rfl) rfl rfl hl.1 rfl (lv_room (Nat.le_of_ble_eq_true rfl)) d_Model_binary_14 ⟨Nat.le_of_ble_eq_true rfl, Nat.le_of_ble_eq_true rfl⟩) hS (fun q _ h => hFc q h) hFc (fun r9 u9 t9 H locs ht hvm e9 hB hz1 hk1 hS => ?_)
    have e9 : r_32 = r9 := e9
    subst e9
    replace hP := x_keep hP hk1
    clear hFc hk1 hz1 hvm hB ht
    obtain ⟨e1i, e1j, e1a, e1b, e3⟩ := re4m hm
    obtain ⟨hP, hD⟩ := y_eq e1i e1j e1a e1b hP hD
    exact W.lret hx hb hr (fun t9 ht hW => ⟨⟨_, (), rfl, e3.symm, by rw [ht]; exact hP, hD⟩, hS.F ht⟩) hS.2.2 d_Model_binary_17

def m_Model_asNumber_v73_b34 (n : Nat) : Nat → (Nat → Int32) → (Nat → Int64) → (Nat → Nat → Int32) → (Nat → Nat → Int64) → Int32 → Int32 → Int32 → Int64 → Int32 → Option ((Nat → Int32) × (Nat → Int64) × (Nat → Nat → Int32) × (Nat → Nat → Int64) × Int32)
  | 0, _, _, _, _, _, _, _, _, _ => none
  | f + 1, i, j, a, b, v2, v3, v4, v5, v7 => if v3 ≤ v7 then if ((lg_cmp v5 1000000000)) ≤ ((0 : Int32)) then if v4 = ((1 : Int32)) then ob1 ((-v5).toInt32 : Int32) (fun x_5 => ob1 (upd i 28 x_5 : Nat → Int32) (fun i_6 => some (i_6, j, a, b, 1))) else ob1 (upd i 28 v5.toInt32 : Nat → Int32) (fun i_4 => some (i_4, j, a, b, 1)) else some (i, j, a, b, 2) else ck ((v2 + v7)) 4000 (ob1 (a 73 (v2 + v7).toNatClampNeg : Int32) (fun x_8 => if x_8 < ((48 : Int32)) then some (i, j, a, b, 0) else if x_8 ≤ ((57 : Int32)) then ob0 (m_Math_min2 n (((v5 * 10) + x_8.toInt64) - 48) (10000000000 : Int64)) (fun r_12 => ob1 (v7 + 1 : Int32) (fun x_13 => m_Model_asNumber_v73_b34 n f i j a b v2 v3 v4 r_12 x_13)) else some (i, j, a, b, 0)))
set_option maxHeartbeats 4000000 in
set_option maxRecDepth 100000 in
theorem lb_Model_asNumber_v73_34 (l : Launch) (dC : Nat → ClassId) (dI : Nat → Nat → Nat) (cI cJ cB : ClassId) (adK adV adA : Nat → Nat) (h : Nat) (v : Nat → Nat) (n : Nat) {p : Program} {e : Env} {s : State} {m : MethodId} {args : Array Value} {below : List Frame} {meth : Method} {c : Code} {A : Nat → Prop} (hx : p.tables.exec = Jvm.exec) (hb : c.code = b_Model_asNumber) (hml : c.maxLocals = 9) (hown : s.vm.findClass R_Model = some m.cls) (hts : ∀ w ∈ w_Model_asNumber, w.before args s = true) (hK : va_K (dC, dI) classes [(cI, .int), (cJ, .long), (cB, .byte)] s) (hE : tw_E adK adV adA A s s.heap) (hA : ∀ q : Nat, s.heap.size ≤ q → A q) (hr : meth.sig.returnType = (some .int)) (hlocks : meth.locks = false) {i2 : Nat → Int32} {j2 : Nat → Int64} {a2 : Nat → Nat → Int32} {b2 : Nat → Nat → Int64} {r2 : Int32} : ∀ (f : Nat) (i : Nat → Int32) (j : Nat → Int64) (a : Nat → Nat → Int32) (b : Nat → Nat → Int64) (v2 : Int32) (v3 : Int32) (v4 : Int32) (v5 : Int64) (v7 : Int32), m_Model_asNumber_v73_b34 n f i j a b v2 v3 v4 v5 v7 = some (i2, j2, a2, b2, r2) → ∀ (H : Heap) (locs : List Loc) (ls : Array Slot), va_P (dC, dI) classes (MW cI cJ cB h v i j a b) H → va_D A (MW cI cJ cB h v i j a b) → va_S A s.heap H locs → lv_has ls 9 [(0, .ref h), (1, .ref ((v 73))), (2, .int v2), (3, .int v3), (4, .int v4), (5, .long v5), (7, .int v7)] → W p l e ({ frames := 1, cells := 0, slots := 0, locals := 23 } : Room) s m args below meth c H locs 0 0 (MQ below (va_Qi (xR r2) (yB dC dI cI cJ cB h v i2 j2 a2 b2 A) A) args s 0 0 A) (F0 m 34 ls []) := by
  have htt : ∀ w ∈ tw_T, w.before _ s = true := fun w h => hts w (List.mem_cons_of_mem _ h)
  intro f
  induction f with
  | zero =>
    intro i j a b v2 v3 v4 v5 v7 hm
    rw [m_Model_asNumber_v73_b34] at hm
    cases hm
  | succ f ih =>
    intro i j a b v2 v3 v4 v5 v7 hm H locs ls hP hD hS hl
    rw [m_Model_asNumber_v73_b34] at hm
    refine lv_iload hx hb d_Model_asNumber_34 (lv_at hl 6 rfl) ?_
    refine lv_iload_n hx hb d_Model_asNumber_36 rfl (lv_at hl 3 rfl) ?_
    refine lv_icmp_ge (tgt := 92) hx hb d_Model_asNumber_37 (by decide) (fun c_1 => ?_) (fun c_1 => ?_)
    · replace hm := if_t c_1 hm
      refine lv_lload hx hb d_Model_asNumber_92 (lv_at hl 5 rfl) ?_
      refine lv_ldc2 (v := 1000000000) hx hb hown (htt _ lk_Model_144) d_Model_asNumber_94 ?_
      refine W.lcmp hx hb d_Model_asNumber_97 ?_
      refine lv_if_le (tgt := 103) hx hb d_Model_asNumber_98 (by decide) (fun c_2 => ?_) (fun c_2 => ?_)
      · replace hm := if_t c_2 hm
        refine lv_aload_n hx hb d_Model_asNumber_103 rfl (lv_at hl 0 rfl) ?_
        refine lv_iload hx hb d_Model_asNumber_104 (lv_at hl 4 rfl) ?_
        refine lv_iconst (v := 1) hx hb d_Model_asNumber_106 (by decide) ?_
        refine lv_icmp_ne (tgt := 116) hx hb d_Model_asNumber_107 (by decide) (fun c_3 => ?_) (fun c_3 => ?_)
        · replace hm := if_f c_3 hm
          refine lv_lload hx hb d_Model_asNumber_116 (lv_at hl 5 rfl) ?_
          refine lv_l2i hx hb d_Model_asNumber_118 rfl ?_
          refine va_put (D := (dC, dI)) (ci := 12) (v := .int v5.toInt32) (ty := .int) (C := R_Model) (T := F_Model) (N := 127) hx hb htt iw_Model t_Model t_Model_ok n_Model hown hK hP hD hS 0 yo_12 rfl 28 (Nat.le_of_ble_eq_true rfl) (htt _ lk_Model_146) (fun _ h9 => h9) rfl (by decide +kernel) rfl rfl yl_28 d_Model_asNumber_119 (fun H locs hP hD hS => ?_)
          obtain ⟨i_4, ei_4⟩ : ∃ y9 : Nat → Int32, y9 = upd i 28 v5.toInt32 := ⟨_, rfl⟩
          replace hm := ob1_at ei_4 hm
          obtain ⟨hP, hD⟩ := yw_28 ei_4 hP hD
          refine lv_iconst (v := 1) hx hb d_Model_asNumber_122 (by decide) ?_
          obtain ⟨e1i, e1j, e1a, e1b, e3⟩ := re4m hm
          obtain ⟨hP, hD⟩ := y_eq e1i e1j e1a e1b hP hD
          exact W.iret hx hb hr (fun t9 ht hW => ⟨⟨_, (), rfl, e3.symm, by rw [ht]; exact hP, hD⟩, hS.F ht⟩) hS.2.2 d_Model_asNumber_123
        · replace hm := if_t c_3 hm
          refine lv_lload hx hb d_Model_asNumber_110 (lv_at hl 5 rfl) ?_
          refine lv_lneg hx hb d_Model_asNumber_112 ?_
          refine lv_goto (tgt := 118) hx hb d_Model_asNumber_113 (by decide) ?_
          refine lv_l2i hx hb d_Model_asNumber_118 rfl ?_
          refine lv_topi (fun x_5 ex_5 => ?_)
          replace hm := ob1_at ex_5 hm
          refine va_put (D := (dC, dI)) (ci := 12) (v := .int x_5) (ty := .int) (C := R_Model) (T := F_Model) (N := 127) hx hb htt iw_Model t_Model t_Model_ok n_Model hown hK hP hD hS 0 yo_12 rfl 28 (Nat.le_of_ble_eq_true rfl) (htt _ lk_Model_146) (fun _ h9 => h9) rfl (by decide +kernel) rfl rfl yl_28 d_Model_asNumber_119 (fun H locs hP hD hS => ?_)
          obtain ⟨i_6, ei_6⟩ : ∃ y9 : Nat → Int32, y9 = upd i 28 x_5 := ⟨_, rfl⟩
          replace hm := ob1_at ei_6 hm
          obtain ⟨hP, hD⟩ := yw_28 ei_6 hP hD
          refine lv_iconst (v := 1) hx hb d_Model_asNumber_122 (by decide) ?_
          obtain ⟨e1i, e1j, e1a, e1b, e3⟩ := re4m hm
          obtain ⟨hP, hD⟩ := y_eq e1i e1j e1a e1b hP hD
          exact W.iret hx hb hr (fun t9 ht hW => ⟨⟨_, (), rfl, e3.symm, by rw [ht]; exact hP, hD⟩, hS.F ht⟩) hS.2.2 d_Model_asNumber_123
      · replace hm := if_f c_2 hm
        refine lv_iconst (v := 2) hx hb d_Model_asNumber_101 (by decide) ?_
        obtain ⟨e1i, e1j, e1a, e1b, e3⟩ := re4m hm
        obtain ⟨hP, hD⟩ := y_eq e1i e1j e1a e1b hP hD
        exact W.iret hx hb hr (fun t9 ht hW => ⟨⟨_, (), rfl, e3.symm, by rw [ht]; exact hP, hD⟩, hS.F ht⟩) hS.2.2 d_Model_asNumber_102
    · replace hm := if_f c_1 hm
      refine lv_aload_n hx hb d_Model_asNumber_40 rfl (lv_at hl 1 rfl) ?_
      refine lv_iload_n hx hb d_Model_asNumber_41 rfl (lv_at hl 2 rfl) ?_
      refine lv_iload hx hb d_Model_asNumber_42 (lv_at hl 6 rfl) ?_
      refine lv_iadd hx hb d_Model_asNumber_44 ?_
      obtain ⟨h_7, hm⟩ := ck_some hm
      refine va_bald hx hb hK hP 49 2 ya_73 rfl h_7 d_Model_asNumber_45 ?_
      refine lv_topi (fun x_8 ex_8 => ?_)
      replace hm := ob1_at ex_8 hm
      refine lv_istore (lv' := [(8, .int x_8), (0, .ref h), (1, .ref ((v 73))), (2, .int v2), (3, .int v3), (4, .int v4), (5, .long v5), (7, .int v7)]) hx hb d_Model_asNumber_46 hl (by decide) rfl (fun ls hl => ?_)
      refine lv_iload hx hb d_Model_asNumber_48 (lv_at hl 0 rfl) ?_
      refine lv_bipush (v := 48) hx hb d_Model_asNumber_50 (by decide) ?_
      refine lv_icmp_lt (tgt := 62) hx hb d_Model_asNumber_52 (by decide) (fun c_9 => ?_) (fun c_9 => ?_)
      · replace hm := if_t c_9 hm
        refine lv_iconst (v := 0) hx hb d_Model_asNumber_62 (by decide) ?_
        obtain ⟨e1i, e1j, e1a, e1b, e3⟩ := re4m hm
        obtain ⟨hP, hD⟩ := y_eq e1i e1j e1a e1b hP hD
        exact W.iret hx hb hr (fun t9 ht hW => ⟨⟨_, (), rfl, e3.symm, by rw [ht]; exact hP, hD⟩, hS.F ht⟩) hS.2.2 d_Model_asNumber_63
      · replace hm := if_f c_9 hm
        refine lv_iload hx hb d_Model_asNumber_55 (lv_at hl 0 rfl) ?_
        refine lv_bipush (v := 57) hx hb d_Model_asNumber_57 (by decide) ?_
        refine lv_icmp_le (tgt := 64) hx hb d_Model_asNumber_59 (by decide) (fun c_10 => ?_) (fun c_10 => ?_)
        · replace hm := if_t c_10 hm
          refine lv_lload hx hb d_Model_asNumber_64 (lv_at hl 6 rfl) ?_
          refine lv_ldc2 (v := 10) hx hb hown (htt _ lk_Model_134) d_Model_asNumber_66 ?_
          refine lv_lmul hx hb d_Model_asNumber_69 ?_
          refine lv_iload hx hb d_Model_asNumber_70 (lv_at hl 0 rfl) ?_
          refine lv_i2l hx hb d_Model_asNumber_72 rfl ?_
          refine lv_ladd hx hb d_Model_asNumber_73 ?_
          refine lv_ldc2 (v := 48) hx hb hown (htt _ lk_Model_136) d_Model_asNumber_74 ?_
          refine lv_lsub hx hb d_Model_asNumber_77 ?_
          refine lv_ldc2 (v := 10000000000) hx hb hown (htt _ lk_Model_138) d_Model_asNumber_78 ?_
          obtain ⟨r_12, h_11, hm⟩ := ob0_some hm
          have hFc := x_free0 hS hA
          refine va_calll (va_runS (As := [.long (((v5 * 10) + x_8.toInt64) - 48), .long 10000000000]) (rest := []) ⟨hx, hb, hml, hown, hts⟩ (x_Math_min2 l H.size n h_11) (va_cwS 2 hts (tw_GS tw_cons cw_Math_min2 lk_Model_140 st_Math_min2 ini_Math) rfl rfl rfl hd_Math_min2 ⟨Nat.le_of_ble_eq_true rfl, Nat.le_of_ble_eq_true rfl⟩) xpS0 rfl rfl hl.1 rfl (lv_room (Nat.le_of_ble_eq_true rfl)) d_Model_asNumber_81 ⟨Nat.le_of_ble_eq_true rfl, Nat.le_of_ble_eq_true rfl⟩) hS (fun q _ h => hFc q h) hFc (fun r9 u9 t9 H locs ht hvm e9 hB hz1 hk1 hS => ?_)
          have e9 : r_12 = r9 := e9
          subst e9
          replace hP := x_keep hP hk1
          clear hFc hk1 hz1 hvm hB ht
          refine lv_lstore (lv' := [(5, .long r_12), (8, .int x_8), (0, .ref h), (1, .ref ((v 73))), (2, .int v2), (3, .int v3), (4, .int v4), (7, .int v7)]) hx hb d_Model_asNumber_84 hl (by decide) rfl (fun ls hl => ?_)
          obtain ⟨x_13, ex_13⟩ : ∃ y9 : Int32, y9 = v7 + 1 := ⟨_, rfl⟩
          replace hm := ob1_at ex_13 hm
          refine lv_iinc (v := x_13) (lv' := [(7, .int x_13), (5, .long r_12), (8, .int x_8), (0, .ref h), (1, .ref ((v 73))), (2, .int v2), (3, .int v3), (4, .int v4)]) hx hb d_Model_asNumber_86 hl (k := 7) rfl (by rw [ex_13]; rfl) (by decide) rfl (fun ls hl => ?_)
          refine lv_goto (tgt := 34) hx hb d_Model_asNumber_89 (by decide) ?_
          exact ih _ _ _ _ _ _ _ _ _ hm _ _ _ hP hD hS (lv_sub hl [3, 4, 5, 6, 7, 1, 0] rfl)
        · replace hm := if_f c_10 hm
          refine lv_iconst (v := 0) hx hb d_Model_asNumber_62 (by decide) ?_
          obtain ⟨e1i, e1j, e1a, e1b, e3⟩ := re4m hm
          obtain ⟨hP, hD⟩ := y_eq e1i e1j e1a e1b hP hD
          exact W.iret hx hb hr (fun t9 ht hW => ⟨⟨_, (), rfl, e3.symm, by rw [ht]; exact hP, hD⟩, hS.F ht⟩) hS.2.2 d_Model_asNumber_63
def m_Model_asNumber_v73_b17 (n : Nat) (i : Nat → Int32) (j : Nat → Int64) (a : Nat → Nat → Int32) (b : Nat → Nat → Int64) (v2 : Int32) (v3 : Int32) (s0 : Int32) : Option ((Nat → Int32) × (Nat → Int64) × (Nat → Nat → Int32) × (Nat → Nat → Int64) × Int32) := if s0 = v3 then some (i, j, a, b, 0) else m_Model_asNumber_v73_b34 n n i j a b v2 v3 s0 (0 : Int64) s0
set_option maxHeartbeats 4000000 in
set_option maxRecDepth 100000 in
theorem lb_Model_asNumber_v73_17 (l : Launch) (dC : Nat → ClassId) (dI : Nat → Nat → Nat) (cI cJ cB : ClassId) (adK adV adA : Nat → Nat) (h : Nat) (v : Nat → Nat) (n : Nat) {p : Program} {e : Env} {s : State} {m : MethodId} {args : Array Value} {below : List Frame} {meth : Method} {c : Code} {A : Nat → Prop} (hx : p.tables.exec = Jvm.exec) (hb : c.code = b_Model_asNumber) (hml : c.maxLocals = 9) (hown : s.vm.findClass R_Model = some m.cls) (hts : ∀ w ∈ w_Model_asNumber, w.before args s = true) (hK : va_K (dC, dI) classes [(cI, .int), (cJ, .long), (cB, .byte)] s) (hE : tw_E adK adV adA A s s.heap) (hA : ∀ q : Nat, s.heap.size ≤ q → A q) (hr : meth.sig.returnType = (some .int)) (hlocks : meth.locks = false) {i2 : Nat → Int32} {j2 : Nat → Int64} {a2 : Nat → Nat → Int32} {b2 : Nat → Nat → Int64} {r2 : Int32} (i : Nat → Int32) (j : Nat → Int64) (a : Nat → Nat → Int32) (b : Nat → Nat → Int64) (v2 : Int32) (v3 : Int32) (s0 : Int32) (hm : m_Model_asNumber_v73_b17 n i j a b v2 v3 s0 = some (i2, j2, a2, b2, r2)) : ∀ (H : Heap) (locs : List Loc) (ls : Array Slot), va_P (dC, dI) classes (MW cI cJ cB h v i j a b) H → va_D A (MW cI cJ cB h v i j a b) → va_S A s.heap H locs → lv_has ls 9 [(0, .ref h), (1, .ref ((v 73))), (2, .int v2), (3, .int v3)] → W p l e ({ frames := 1, cells := 0, slots := 0, locals := 23 } : Room) s m args below meth c H locs 0 0 (MQ below (va_Qi (xR r2) (yB dC dI cI cJ cB h v i2 j2 a2 b2 A) A) args s 0 0 A) (F0 m 17 ls [.int s0]) := by
  have htt : ∀ w ∈ tw_T, w.before _ s = true := fun w h => hts w (List.mem_cons_of_mem _ h)
  intro H locs ls hP hD hS hl
  rw [m_Model_asNumber_v73_b17] at hm
  refine lv_istore (lv' := [(4, .int s0), (0, .ref h), (1, .ref ((v 73))), (2, .int v2), (3, .int v3)]) hx hb d_Model_asNumber_17 hl (by decide) rfl (fun ls hl => ?_)
  refine lv_iload hx hb d_Model_asNumber_19 (lv_at hl 0 rfl) ?_
  refine lv_iload_n hx hb d_Model_asNumber_21 rfl (lv_at hl 4 rfl) ?_
  refine lv_icmp_ne (tgt := 27) hx hb d_Model_asNumber_22 (by decide) (fun c_1 => ?_) (fun c_1 => ?_)
  · replace hm := if_f c_1 hm
    refine lv_lconst (v := 0) hx hb d_Model_asNumber_27 (by decide) ?_
    refine lv_lstore (lv' := [(5, .long 0), (4, .int s0), (0, .ref h), (1, .ref ((v 73))), (2, .int v2), (3, .int v3)]) hx hb d_Model_asNumber_28 hl (by decide) rfl (fun ls hl => ?_)
    refine lv_iload hx hb d_Model_asNumber_30 (lv_at hl 1 rfl) ?_
    refine lv_istore (lv' := [(7, .int s0), (5, .long 0), (4, .int s0), (0, .ref h), (1, .ref ((v 73))), (2, .int v2), (3, .int v3)]) hx hb d_Model_asNumber_32 hl (by decide) rfl (fun ls hl => ?_)
    exact lb_Model_asNumber_v73_34 l dC dI cI cJ cB adK adV adA h v n hx hb hml hown hts hK hE hA hr hlocks n _ _ _ _ _ _ _ _ _ hm _ _ _ hP hD hS (lv_sub hl [3, 4, 5, 6, 2, 1, 0] rfl)
  · replace hm := if_t c_1 hm
    refine lv_iconst (v := 0) hx hb d_Model_asNumber_25 (by decide) ?_
    obtain ⟨e1i, e1j, e1a, e1b, e3⟩ := re4m hm
    obtain ⟨hP, hD⟩ := y_eq e1i e1j e1a e1b hP hD
    exact W.iret hx hb hr (fun t9 ht hW => ⟨⟨_, (), rfl, e3.symm, by rw [ht]; exact hP, hD⟩, hS.F ht⟩) hS.2.2 d_Model_asNumber_26
def m_Model_asNumber_v73_b16 (n : Nat) (i : Nat → Int32) (j : Nat → Int64) (a : Nat → Nat → Int32) (b : Nat → Nat → Int64) (v2 : Int32) (v3 : Int32) : Option ((Nat → Int32) × (Nat → Int64) × (Nat → Nat → Int32) × (Nat → Nat → Int64) × Int32) := m_Model_asNumber_v73_b17 n i j a b v2 v3 (0 : Int32)
set_option maxHeartbeats 4000000 in
set_option maxRecDepth 100000 in
theorem lb_Model_asNumber_v73_16 (l : Launch) (dC : Nat → ClassId) (dI : Nat → Nat → Nat) (cI cJ cB : ClassId) (adK adV adA : Nat → Nat) (h : Nat) (v : Nat → Nat) (n : Nat) {p : Program} {e : Env} {s : State} {m : MethodId} {args : Array Value} {below : List Frame} {meth : Method} {c : Code} {A : Nat → Prop} (hx : p.tables.exec = Jvm.exec) (hb : c.code = b_Model_asNumber) (hml : c.maxLocals = 9) (hown : s.vm.findClass R_Model = some m.cls) (hts : ∀ w ∈ w_Model_asNumber, w.before args s = true) (hK : va_K (dC, dI) classes [(cI, .int), (cJ, .long), (cB, .byte)] s) (hE : tw_E adK adV adA A s s.heap) (hA : ∀ q : Nat, s.heap.size ≤ q → A q) (hr : meth.sig.returnType = (some .int)) (hlocks : meth.locks = false) {i2 : Nat → Int32} {j2 : Nat → Int64} {a2 : Nat → Nat → Int32} {b2 : Nat → Nat → Int64} {r2 : Int32} (i : Nat → Int32) (j : Nat → Int64) (a : Nat → Nat → Int32) (b : Nat → Nat → Int64) (v2 : Int32) (v3 : Int32) (hm : m_Model_asNumber_v73_b16 n i j a b v2 v3 = some (i2, j2, a2, b2, r2)) : ∀ (H : Heap) (locs : List Loc) (ls : Array Slot), va_P (dC, dI) classes (MW cI cJ cB h v i j a b) H → va_D A (MW cI cJ cB h v i j a b) → va_S A s.heap H locs → lv_has ls 9 [(0, .ref h), (1, .ref ((v 73))), (2, .int v2), (3, .int v3)] → W p l e ({ frames := 1, cells := 0, slots := 0, locals := 23 } : Room) s m args below meth c H locs 0 0 (MQ below (va_Qi (xR r2) (yB dC dI cI cJ cB h v i2 j2 a2 b2 A) A) args s 0 0 A) (F0 m 16 ls []) := by
  have htt : ∀ w ∈ tw_T, w.before _ s = true := fun w h => hts w (List.mem_cons_of_mem _ h)
  intro H locs ls hP hD hS hl
  rw [m_Model_asNumber_v73_b16] at hm
  refine lv_iconst (v := 0) hx hb d_Model_asNumber_16 (by decide) ?_
  exact lb_Model_asNumber_v73_17 l dC dI cI cJ cB adK adV adA h v n hx hb hml hown hts hK hE hA hr hlocks _ _ _ _ _ _ _ hm _ _ _ hP hD hS (lv_sub hl [0, 1, 2, 3] rfl)
def m_Model_asNumber_v73 (n : Nat) (i : Nat → Int32) (j : Nat → Int64) (a : Nat → Nat → Int32) (b : Nat → Nat → Int64) (v2 : Int32) (v3 : Int32) : Option ((Nat → Int32) × (Nat → Int64) × (Nat → Nat → Int32) × (Nat → Nat → Int64) × Int32) := if v3 ≤ ((0 : Int32)) then m_Model_asNumber_v73_b16 n i j a b v2 v3 else ck v2 4000 (if ((a 73 v2.toNatClampNeg)) = ((45 : Int32)) then m_Model_asNumber_v73_b17 n i j a b v2 v3 (1 : Int32) else m_Model_asNumber_v73_b16 n i j a b v2 v3)
set_option maxHeartbeats 4000000 in
set_option maxRecDepth 100000 in
theorem x_Model_asNumber_v73 (l : Launch) (dC : Nat → ClassId) (dI : Nat → Nat → Nat) (cI cJ cB : ClassId) (adK adV adA : Nat → Nat) (h : Nat) (v : Nat → Nat) (sz : Nat) (n : Nat) {i : Nat → Int32} {j : Nat → Int64} {a : Nat → Nat → Int32} {b : Nat → Nat → Int64} {v2 : Int32} {v3 : Int32} {i2 : Nat → Int32} {j2 : Nat → Int64} {a2 : Nat → Nat → Int32} {b2 : Nat → Nat → Int64} {r2 : Int32} (hm : m_Model_asNumber_v73 n i j a b v2 v3 = some (i2, j2, a2, b2, r2)) : Met l y_Model_asNumber w_Model_asNumber ({ frames := 1, cells := 0, slots := 0, locals := 23 } : Room) (va_Pc [.ref h, .ref ((v 73)), .int v2, .int v3] (yE dC dI cI cJ cB adK adV adA h v i j a b sz)) (va_Qi (xR r2) (yB dC dI cI cJ cB h v i2 j2 a2 b2 (va_A (MW cI cJ cB h v i j a b) sz)) (va_A (MW cI cJ cB h v i j a b) sz)) 0 0 ((va_A (MW cI cJ cB h v i j a b) sz)) := by
  refine Met.ofW (cc := b_Model_asNumber) (maxL := 9) (ret := (some .int)) (by decide) rfl ?_
  intro p e s m args below meth c s₁ B hml hv
  obtain ⟨rfl, hsz, hP, hK, hE, hD0⟩ := hv
  have hx := B.exec
  have hb := B.bytes
  have hr := B.returns
  have hts := atoms_spec (ws := w_Model_asNumber) B.pre
  have htt : ∀ w ∈ tw_T, w.before _ s = true := fun w h => hts w (List.mem_cons_of_mem _ h)
  have hown : s.vm.findClass R_Model = some m.cls := findClass_of_methodNamed B.named
  have hlocks := B.notSynchronized
  subst hsz
  have hD := hD0.self (sz := s.heap.size)
  generalize hAe : (va_A (MW cI cJ cB h v i j a b) s.heap.size) = A at hD hE ⊢
  have hA : ∀ q : Nat, s.heap.size ≤ q → A q := fun q h => by rw [← hAe]; exact Or.inr h
  have hS : va_S A s.heap s.heap [] := va_S.rf
  have hl := lv_entry ([.ref h, .ref ((v 73)), .int v2, .int v3]) (n := 9) (Nat.le_of_ble_eq_true rfl)
  rw [lg_entry_eq]
  generalize (lg_sl ([.ref h, .ref ((v 73)), .int v2, .int v3]) ++ List.replicate (9 - (lg_sl ([.ref h, .ref ((v 73)), .int v2, .int v3])).length) Slot.unset).toArray = ls at hl ⊢
  have hl : lv_has ls 9 [(0, .ref h), (1, .ref ((v 73))), (2, .int v2), (3, .int v3)] := hl
  rw [m_Model_asNumber_v73] at hm
  refine lv_iload_n hx hb d_Model_asNumber_0 rfl (lv_at hl 3 rfl) ?_
  refine lv_if_le (tgt := 16) hx hb d_Model_asNumber_1 (by decide) (fun c_1 => ?_) (fun c_1 => ?_)
  · replace hm := if_t c_1 hm
    exact lb_Model_asNumber_v73_16 l dC dI cI cJ cB adK adV adA h v n hx hb hml hown hts hK hE hA hr hlocks _ _ _ _ _ _ hm _ _ _ hP hD hS (lv_sub hl [0, 1, 2, 3] rfl)
  · replace hm := if_f c_1 hm
    refine lv_aload_n hx hb d_Model_asNumber_4 rfl (lv_at hl 1 rfl) ?_
    refine lv_iload_n hx hb d_Model_asNumber_5 rfl (lv_at hl 2 rfl) ?_
    obtain ⟨h_2, hm⟩ := ck_some hm
    refine va_bald hx hb hK hP 49 2 ya_73 rfl h_2 d_Model_asNumber_6 ?_
    refine lv_bipush (v := 45) hx hb d_Model_asNumber_7 (by decide) ?_
    refine lv_icmp_ne (tgt := 16) hx hb d_Model_asNumber_9 (by decide) (fun c_3 => ?_) (fun c_3 => ?_)
    · replace hm := if_f c_3 hm
      exact lb_Model_asNumber_v73_16 l dC dI cI cJ cB adK adV adA h v n hx hb hml hown hts hK hE hA hr hlocks _ _ _ _ _ _ hm _ _ _ hP hD hS (lv_sub hl [0, 1, 2, 3] rfl)
    · replace hm := if_t c_3 hm
      refine lv_iconst (v := 1) hx hb d_Model_asNumber_12 (by decide) ?_
      refine lv_goto (tgt := 17) hx hb d_Model_asNumber_13 (by decide) ?_
      exact lb_Model_asNumber_v73_17 l dC dI cI cJ cB adK adV adA h v n hx hb hml hown hts hK hE hA hr hlocks _ _ _ _ _ _ _ hm _ _ _ hP hD hS (lv_sub hl [0, 1, 2, 3] rfl)

def m_Model_scan_b708 (n : Nat) (i : Nat → Int32) (j : Nat → Int64) (a : Nat → Nat → Int32) (b : Nat → Nat → Int64)  : Option ((Nat → Int32) × (Nat → Int64) × (Nat → Nat → Int32) × (Nat → Nat → Int64) × Int32) := if ((i 75)) = ((0 : Int32)) then some (i, j, a, b, 1) else some (i, j, a, b, 0)
set_option maxHeartbeats 4000000 in
set_option maxRecDepth 100000 in
theorem lb_Model_scan_708 (l : Launch) (dC : Nat → ClassId) (dI : Nat → Nat → Nat) (cI cJ cB : ClassId) (adK adV adA : Nat → Nat) (h : Nat) (v : Nat → Nat) (n : Nat) {p : Program} {e : Env} {s : State} {m : MethodId} {args : Array Value} {below : List Frame} {meth : Method} {c : Code} {A : Nat → Prop} (hx : p.tables.exec = Jvm.exec) (hb : c.code = b_Model_scan) (hml : c.maxLocals = 10) (hown : s.vm.findClass R_Model = some m.cls) (hts : ∀ w ∈ w_Model_scan, w.before args s = true) (hK : va_K (dC, dI) classes [(cI, .int), (cJ, .long), (cB, .byte)] s) (hE : tw_E adK adV adA A s s.heap) (hA : ∀ q : Nat, s.heap.size ≤ q → A q) (hr : meth.sig.returnType = (some .boolean)) (hlocks : meth.locks = false) {i2 : Nat → Int32} {j2 : Nat → Int64} {a2 : Nat → Nat → Int32} {b2 : Nat → Nat → Int64} {r2 : Int32} (i : Nat → Int32) (j : Nat → Int64) (a : Nat → Nat → Int32) (b : Nat → Nat → Int64)  (hm : m_Model_scan_b708 n i j a b = some (i2, j2, a2, b2, r2)) : ∀ (H : Heap) (locs : List Loc) (ls : Array Slot), va_P (dC, dI) classes (MW cI cJ cB h v i j a b) H → va_D A (MW cI cJ cB h v i j a b) → va_S A s.heap H locs → lv_has ls 10 [(0, .ref h)] → W p l e ({ frames := 7, cells := 0, slots := 0, locals := 160 } : Room) s m args below meth c H locs 0 0 (MQ below (va_Qi (xR r2) (yB dC dI cI cJ cB h v i2 j2 a2 b2 A) A) args s 0 0 A) (F0 m 708 ls []) := by
  have htt : ∀ w ∈ tw_T, w.before _ s = true := fun w h => hts w (List.mem_cons_of_mem _ h)
  intro H locs ls hP hD hS hl
  rw [m_Model_scan_b708] at hm
  refine lv_aload_n hx hb d_Model_scan_708 rfl (lv_at hl 0 rfl) ?_
  refine va_get (D := (dC, dI)) (ci := 12) (v := .int (i 75)) (C := R_Model) (T := F_Model) (N := 127) hx hb htt iw_Model hown hK hP 0 yo_12 rfl 75 (Nat.le_of_ble_eq_true rfl) (htt _ lk_Model_416) (fun _ h9 => h9) yg_75 d_Model_scan_709 ?_
  refine lv_if_ne (tgt := 719) hx hb d_Model_scan_712 (by decide) (fun c_1 => ?_) (fun c_1 => ?_)
  · replace hm := if_f c_1 hm
    refine lv_iconst (v := 0) hx hb d_Model_scan_719 (by decide) ?_
    obtain ⟨e1i, e1j, e1a, e1b, e3⟩ := re4m hm
    obtain ⟨hP, hD⟩ := y_eq e1i e1j e1a e1b hP hD
    exact W.zret hx hb hr (by decide) (fun t9 ht hW => ⟨⟨_, (), rfl, e3.symm, by rw [ht]; exact hP, hD⟩, hS.F ht⟩) hS.2.2 d_Model_scan_720
  · replace hm := if_t c_1 hm
    refine lv_iconst (v := 1) hx hb d_Model_scan_715 (by decide) ?_
    refine lv_goto (tgt := 720) hx hb d_Model_scan_716 (by decide) ?_
    obtain ⟨e1i, e1j, e1a, e1b, e3⟩ := re4m hm
    obtain ⟨hP, hD⟩ := y_eq e1i e1j e1a e1b hP hD
    exact W.zret hx hb hr (by decide) (fun t9 ht hW => ⟨⟨_, (), rfl, e3.symm, by rw [ht]; exact hP, hD⟩, hS.F ht⟩) hS.2.2 d_Model_scan_720
def m_Model_scan_b664 (n : Nat) (i : Nat → Int32) (j : Nat → Int64) (a : Nat → Nat → Int32) (b : Nat → Nat → Int64) (v1 : Int32) (v2 : Int32) : Option ((Nat → Int32) × (Nat → Int64) × (Nat → Nat → Int32) × (Nat → Nat → Int64) × Int32) := if v1 = ((0 : Int32)) then m_Model_scan_b708 n i j a b else if ((i 75)) = ((0 : Int32)) then if ((i 84)) = ((1 : Int32)) then om (m_Model_fail n i j a b (8 : Int32) v2) (fun i_12 j_13 a_14 b_15 r_16 => m_Model_scan_b708 n i_12 j_13 a_14 b_15) else if ((i 84)) ≤ ((1 : Int32)) then m_Model_scan_b708 n i j a b else om (m_Model_fail n i j a b (10 : Int32) v2) (fun i_6 j_7 a_8 b_9 r_10 => m_Model_scan_b708 n i_6 j_7 a_8 b_9) else m_Model_scan_b708 n i j a b
set_option maxHeartbeats 4000000 in
set_option maxRecDepth 100000 in
theorem lb_Model_scan_664 (l : Launch) (dC : Nat → ClassId) (dI : Nat → Nat → Nat) (cI cJ cB : ClassId) (adK adV adA : Nat → Nat) (h : Nat) (v : Nat → Nat) (n : Nat) {p : Program} {e : Env} {s : State} {m : MethodId} {args : Array Value} {below : List Frame} {meth : Method} {c : Code} {A : Nat → Prop} (hx : p.tables.exec = Jvm.exec) (hb : c.code = b_Model_scan) (hml : c.maxLocals = 10) (hown : s.vm.findClass R_Model = some m.cls) (hts : ∀ w ∈ w_Model_scan, w.before args s = true) (hK : va_K (dC, dI) classes [(cI, .int), (cJ, .long), (cB, .byte)] s) (hE : tw_E adK adV adA A s s.heap) (hA : ∀ q : Nat, s.heap.size ≤ q → A q) (hr : meth.sig.returnType = (some .boolean)) (hlocks : meth.locks = false) {i2 : Nat → Int32} {j2 : Nat → Int64} {a2 : Nat → Nat → Int32} {b2 : Nat → Nat → Int64} {r2 : Int32} (i : Nat → Int32) (j : Nat → Int64) (a : Nat → Nat → Int32) (b : Nat → Nat → Int64) (v1 : Int32) (v2 : Int32) (hm : m_Model_scan_b664 n i j a b v1 v2 = some (i2, j2, a2, b2, r2)) : ∀ (H : Heap) (locs : List Loc) (ls : Array Slot), va_P (dC, dI) classes (MW cI cJ cB h v i j a b) H → va_D A (MW cI cJ cB h v i j a b) → va_S A s.heap H locs → lv_has ls 10 [(0, .ref h), (1, .int v1), (2, .int v2)] → W p l e ({ frames := 7, cells := 0, slots := 0, locals := 160 } : Room) s m args below meth c H locs 0 0 (MQ below (va_Qi (xR r2) (yB dC dI cI cJ cB h v i2 j2 a2 b2 A) A) args s 0 0 A) (F0 m 664 ls []) := by
  have htt : ∀ w ∈ tw_T, w.before _ s = true := fun w h => hts w (List.mem_cons_of_mem _ h)
  intro H locs ls hP hD hS hl
  rw [m_Model_scan_b664] at hm
  refine lv_iload_n hx hb d_Model_scan_664 rfl (lv_at hl 1 rfl) ?_
  refine lv_if_eq (tgt := 708) hx hb d_Model_scan_665 (by decide) (fun c_1 => ?_) (fun c_1 => ?_)
  · replace hm := if_t c_1 hm
    exact lb_Model_scan_708 l dC dI cI cJ cB adK adV adA h v n hx hb hml hown hts hK hE hA hr hlocks _ _ _ _ hm _ _ _ hP hD hS (lv_sub hl [0] rfl)
  · replace hm := if_f c_1 hm
    refine lv_aload_n hx hb d_Model_scan_668 rfl (lv_at hl 0 rfl) ?_
    refine va_get (D := (dC, dI)) (ci := 12) (v := .int (i 75)) (C := R_Model) (T := F_Model) (N := 127) hx hb htt iw_Model hown hK hP 0 yo_12 rfl 75 (Nat.le_of_ble_eq_true rfl) (htt _ lk_Model_416) (fun _ h9 => h9) yg_75 d_Model_scan_669 ?_
    refine lv_if_ne (tgt := 708) hx hb d_Model_scan_672 (by decide) (fun c_2 => ?_) (fun c_2 => ?_)
    · replace hm := if_f c_2 hm
      exact lb_Model_scan_708 l dC dI cI cJ cB adK adV adA h v n hx hb hml hown hts hK hE hA hr hlocks _ _ _ _ hm _ _ _ hP hD hS (lv_sub hl [0] rfl)
    · replace hm := if_t c_2 hm
      refine lv_aload_n hx hb d_Model_scan_675 rfl (lv_at hl 0 rfl) ?_
      refine va_get (D := (dC, dI)) (ci := 12) (v := .int (i 84)) (C := R_Model) (T := F_Model) (N := 127) hx hb htt iw_Model hown hK hP 0 yo_12 rfl 84 (Nat.le_of_ble_eq_true rfl) (htt _ lk_Model_428) (fun _ h9 => h9) yg_84 d_Model_scan_676 ?_
      refine lv_iconst (v := 1) hx hb d_Model_scan_679 (by decide) ?_
      refine lv_icmp_ne (tgt := 693) hx hb d_Model_scan_680 (by decide) (fun c_3 => ?_) (fun c_3 => ?_)
      · replace hm := if_f c_3 hm
        refine lv_aload_n hx hb d_Model_scan_693 rfl (lv_at hl 0 rfl) ?_
        refine va_get (D := (dC, dI)) (ci := 12) (v := .int (i 84)) (C := R_Model) (T := F_Model) (N := 127) hx hb htt iw_Model hown hK hP 0 yo_12 rfl 84 (Nat.le_of_ble_eq_true rfl) (htt _ lk_Model_428) (fun _ h9 => h9) yg_84 d_Model_scan_694 ?_
        refine lv_iconst (v := 1) hx hb d_Model_scan_697 (by decide) ?_
        refine lv_icmp_le (tgt := 708) hx hb d_Model_scan_698 (by decide) (fun c_4 => ?_) (fun c_4 => ?_)
        · replace hm := if_t c_4 hm
          exact lb_Model_scan_708 l dC dI cI cJ cB adK adV adA h v n hx hb hml hown hts hK hE hA hr hlocks _ _ _ _ hm _ _ _ hP hD hS (lv_sub hl [0] rfl)
        · replace hm := if_f c_4 hm
          refine lv_aload_n hx hb d_Model_scan_701 rfl (lv_at hl 0 rfl) ?_
          refine lv_bipush (v := 10) hx hb d_Model_scan_702 (by decide) ?_
          refine lv_iload_n hx hb d_Model_scan_704 rfl (lv_at hl 2 rfl) ?_
          obtain ⟨i_6, j_7, a_8, b_9, r_10, h_5, hm⟩ := om_some hm
          have hFc := x_free hD hS hA
          refine va_callv (va_runV (As := [.int 10, .int v2]) (rest := []) ⟨hx, hb, hml, hown, hts⟩ (x_Model_fail l dC dI cI cJ cB adK adV adA h v H.size n h_5) (cwV 2 hts (tw_GV tw_cons cw_Model_fail lk_Model_437 in_Model_fail sel_Model_fail ini_Model) rfl rfl rfl ⟨rfl, hd_Model_fail⟩ ⟨Nat.le_of_ble_eq_true rfl, Nat.le_of_ble_eq_true rfl⟩) (ypV hK hP hD hS hE hFc yo_12 rfl) rfl rfl hl.1 rfl (lv_room (Nat.le_of_ble_eq_true rfl)) d_Model_scan_705 ⟨Nat.le_of_ble_eq_true rfl, Nat.le_of_ble_eq_true rfl⟩) hS (fun q _ h => hFc q h) hFc (fun u9 t9 H locs ht hvm e9 hB hz1 hk1 hS => ?_)
          obtain ⟨hP, hD⟩ := y_aft hB ht hFc
          clear hFc hk1 hz1 hvm hB ht
          exact lb_Model_scan_708 l dC dI cI cJ cB adK adV adA h v n hx hb hml hown hts hK hE hA hr hlocks _ _ _ _ hm _ _ _ hP hD hS (lv_sub hl [0] rfl)
      · replace hm := if_t c_3 hm
        refine lv_aload_n hx hb d_Model_scan_683 rfl (lv_at hl 0 rfl) ?_
        refine lv_bipush (v := 8) hx hb d_Model_scan_684 (by decide) ?_
        refine lv_iload_n hx hb d_Model_scan_686 rfl (lv_at hl 2 rfl) ?_
        obtain ⟨i_12, j_13, a_14, b_15, r_16, h_11, hm⟩ := om_some hm
        have hFc := x_free hD hS hA
        refine va_callv (va_runV (As := [.int 8, .int v2]) (rest := []) ⟨hx, hb, hml, hown, hts⟩ (x_Model_fail l dC dI cI cJ cB adK adV adA h v H.size n h_11) (cwV 2 hts (tw_GV tw_cons cw_Model_fail lk_Model_437 in_Model_fail sel_Model_fail ini_Model) rfl rfl rfl ⟨rfl, hd_Model_fail⟩ ⟨Nat.le_of_ble_eq_true rfl, Nat.le_of_ble_eq_true rfl⟩) (ypV hK hP hD hS hE hFc yo_12 rfl) rfl rfl hl.1 rfl (lv_room (Nat.le_of_ble_eq_true rfl)) d_Model_scan_687 ⟨Nat.le_of_ble_eq_true rfl, Nat.le_of_ble_eq_true rfl⟩) hS (fun q _ h => hFc q h) hFc (fun u9 t9 H locs ht hvm e9 hB hz1 hk1 hS => ?_)
        obtain ⟨hP, hD⟩ := y_aft hB ht hFc
        clear hFc hk1 hz1 hvm hB ht
        refine lv_goto (tgt := 708) hx hb d_Model_scan_690 (by decide) ?_
        exact lb_Model_scan_708 l dC dI cI cJ cB adK adV adA h v n hx hb hml hown hts hK hE hA hr hlocks _ _ _ _ hm _ _ _ hP hD hS (lv_sub hl [0] rfl)
def m_Model_scan_b647 (n : Nat) (i : Nat → Int32) (j : Nat → Int64) (a : Nat → Nat → Int32) (b : Nat → Nat → Int64) (v1 : Int32) (v2 : Int32) (v3 : Int32) : Option ((Nat → Int32) × (Nat → Int64) × (Nat → Nat → Int32) × (Nat → Nat → Int64) × Int32) := if ((i 75)) = ((0 : Int32)) then if v3 ≤ ((0 : Int32)) then m_Model_scan_b664 n i j a b v1 v2 else om (m_Model_fail n i j a b (4 : Int32) v2) (fun i_4 j_5 a_6 b_7 r_8 => m_Model_scan_b664 n i_4 j_5 a_6 b_7 v1 v2) else m_Model_scan_b664 n i j a b v1 v2
set_option maxHeartbeats 4000000 in
set_option maxRecDepth 100000 in
theorem lb_Model_scan_647 (l : Launch) (dC : Nat → ClassId) (dI : Nat → Nat → Nat) (cI cJ cB : ClassId) (adK adV adA : Nat → Nat) (h : Nat) (v : Nat → Nat) (n : Nat) {p : Program} {e : Env} {s : State} {m : MethodId} {args : Array Value} {below : List Frame} {meth : Method} {c : Code} {A : Nat → Prop} (hx : p.tables.exec = Jvm.exec) (hb : c.code = b_Model_scan) (hml : c.maxLocals = 10) (hown : s.vm.findClass R_Model = some m.cls) (hts : ∀ w ∈ w_Model_scan, w.before args s = true) (hK : va_K (dC, dI) classes [(cI, .int), (cJ, .long), (cB, .byte)] s) (hE : tw_E adK adV adA A s s.heap) (hA : ∀ q : Nat, s.heap.size ≤ q → A q) (hr : meth.sig.returnType = (some .boolean)) (hlocks : meth.locks = false) {i2 : Nat → Int32} {j2 : Nat → Int64} {a2 : Nat → Nat → Int32} {b2 : Nat → Nat → Int64} {r2 : Int32} (i : Nat → Int32) (j : Nat → Int64) (a : Nat → Nat → Int32) (b : Nat → Nat → Int64) (v1 : Int32) (v2 : Int32) (v3 : Int32) (hm : m_Model_scan_b647 n i j a b v1 v2 v3 = some (i2, j2, a2, b2, r2)) : ∀ (H : Heap) (locs : List Loc) (ls : Array Slot), va_P (dC, dI) classes (MW cI cJ cB h v i j a b) H → va_D A (MW cI cJ cB h v i j a b) → va_S A s.heap H locs → lv_has ls 10 [(0, .ref h), (1, .int v1), (2, .int v2), (3, .int v3)] → W p l e ({ frames := 7, cells := 0, slots := 0, locals := 160 } : Room) s m args below meth c H locs 0 0 (MQ below (va_Qi (xR r2) (yB dC dI cI cJ cB h v i2 j2 a2 b2 A) A) args s 0 0 A) (F0 m 647 ls []) := by
  have htt : ∀ w ∈ tw_T, w.before _ s = true := fun w h => hts w (List.mem_cons_of_mem _ h)
  intro H locs ls hP hD hS hl
  rw [m_Model_scan_b647] at hm
  refine lv_aload_n hx hb d_Model_scan_647 rfl (lv_at hl 0 rfl) ?_
  refine va_get (D := (dC, dI)) (ci := 12) (v := .int (i 75)) (C := R_Model) (T := F_Model) (N := 127) hx hb htt iw_Model hown hK hP 0 yo_12 rfl 75 (Nat.le_of_ble_eq_true rfl) (htt _ lk_Model_416) (fun _ h9 => h9) yg_75 d_Model_scan_648 ?_
  refine lv_if_ne (tgt := 664) hx hb d_Model_scan_651 (by decide) (fun c_1 => ?_) (fun c_1 => ?_)
  · replace hm := if_f c_1 hm
    exact lb_Model_scan_664 l dC dI cI cJ cB adK adV adA h v n hx hb hml hown hts hK hE hA hr hlocks _ _ _ _ _ _ hm _ _ _ hP hD hS (lv_sub hl [0, 1, 2] rfl)
  · replace hm := if_t c_1 hm
    refine lv_iload_n hx hb d_Model_scan_654 rfl (lv_at hl 3 rfl) ?_
    refine lv_if_le (tgt := 664) hx hb d_Model_scan_655 (by decide) (fun c_2 => ?_) (fun c_2 => ?_)
    · replace hm := if_t c_2 hm
      exact lb_Model_scan_664 l dC dI cI cJ cB adK adV adA h v n hx hb hml hown hts hK hE hA hr hlocks _ _ _ _ _ _ hm _ _ _ hP hD hS (lv_sub hl [0, 1, 2] rfl)
    · replace hm := if_f c_2 hm
      refine lv_aload_n hx hb d_Model_scan_658 rfl (lv_at hl 0 rfl) ?_
      refine lv_iconst (v := 4) hx hb d_Model_scan_659 (by decide) ?_
      refine lv_iload_n hx hb d_Model_scan_660 rfl (lv_at hl 2 rfl) ?_
      obtain ⟨i_4, j_5, a_6, b_7, r_8, h_3, hm⟩ := om_some hm
      have hFc := x_free hD hS hA
      refine va_callv (va_runV (As := [.int 4, .int v2]) (rest := []) ⟨hx, hb, hml, hown, hts⟩ (x_Model_fail l dC dI cI cJ cB adK adV adA h v H.size n h_3) (cwV 2 hts (tw_GV tw_cons cw_Model_fail lk_Model_437 in_Model_fail sel_Model_fail ini_Model) rfl rfl rfl ⟨rfl, hd_Model_fail⟩ ⟨Nat.le_of_ble_eq_true rfl, Nat.le_of_ble_eq_true rfl⟩) (ypV hK hP hD hS hE hFc yo_12 rfl) rfl rfl hl.1 rfl (lv_room (Nat.le_of_ble_eq_true rfl)) d_Model_scan_661 ⟨Nat.le_of_ble_eq_true rfl, Nat.le_of_ble_eq_true rfl⟩) hS (fun q _ h => hFc q h) hFc (fun u9 t9 H locs ht hvm e9 hB hz1 hk1 hS => ?_)
      obtain ⟨hP, hD⟩ := y_aft hB ht hFc
      clear hFc hk1 hz1 hvm hB ht
      exact lb_Model_scan_664 l dC dI cI cJ cB adK adV adA h v n hx hb hml hown hts hK hE hA hr hlocks _ _ _ _ _ _ hm _ _ _ hP hD hS (lv_sub hl [0, 1, 2] rfl)
def m_Model_scan_b89 (n : Nat) (rc_35 : (Nat → Int32) → (Nat → Int64) → (Nat → Nat → Int32) → (Nat → Nat → Int64) → Int32 → Int32 → Int32 → Int32 → Option ((Nat → Int32) × (Nat → Int64) × (Nat → Nat → Int32) × (Nat → Nat → Int64) × Int32)) (i : Nat → Int32) (j : Nat → Int64) (a : Nat → Nat → Int32) (b : Nat → Nat → Int64) (v1 : Int32) (v2 : Int32) (v3 : Int32) (v4 : Int32) : Option ((Nat → Int32) × (Nat → Int64) × (Nat → Nat → Int32) × (Nat → Nat → Int64) × Int32) := ob1 (v4 + 1 : Int32) (fun x_1 => rc_35 i j a b v1 v2 v3 x_1)
set_option maxHeartbeats 4000000 in
set_option maxRecDepth 100000 in
theorem lb_Model_scan_89 (l : Launch) (dC : Nat → ClassId) (dI : Nat → Nat → Nat) (cI cJ cB : ClassId) (adK adV adA : Nat → Nat) (h : Nat) (v : Nat → Nat) (n : Nat) {p : Program} {e : Env} {s : State} {m : MethodId} {args : Array Value} {below : List Frame} {meth : Method} {c : Code} {A : Nat → Prop} (hx : p.tables.exec = Jvm.exec) (hb : c.code = b_Model_scan) (hml : c.maxLocals = 10) (hown : s.vm.findClass R_Model = some m.cls) (hts : ∀ w ∈ w_Model_scan, w.before args s = true) (hK : va_K (dC, dI) classes [(cI, .int), (cJ, .long), (cB, .byte)] s) (hE : tw_E adK adV adA A s s.heap) (hA : ∀ q : Nat, s.heap.size ≤ q → A q) (hr : meth.sig.returnType = (some .boolean)) (hlocks : meth.locks = false) {i2 : Nat → Int32} {j2 : Nat → Int64} {a2 : Nat → Nat → Int32} {b2 : Nat → Nat → Int64} {r2 : Int32} (rc_35 : (Nat → Int32) → (Nat → Int64) → (Nat → Nat → Int32) → (Nat → Nat → Int64) → Int32 → Int32 → Int32 → Int32 → Option ((Nat → Int32) × (Nat → Int64) × (Nat → Nat → Int32) × (Nat → Nat → Int64) × Int32)) (Hrc_35 : ∀ (i : Nat → Int32) (j : Nat → Int64) (a : Nat → Nat → Int32) (b : Nat → Nat → Int64) (v1 : Int32) (v2 : Int32) (v3 : Int32) (v4 : Int32), rc_35 i j a b v1 v2 v3 v4 = some (i2, j2, a2, b2, r2) → ∀ (H : Heap) (locs : List Loc) (ls : Array Slot), va_P (dC, dI) classes (MW cI cJ cB h v i j a b) H → va_D A (MW cI cJ cB h v i j a b) → va_S A s.heap H locs → lv_has ls 10 [(0, .ref h), (1, .int v1), (2, .int v2), (3, .int v3), (4, .int v4)] → W p l e ({ frames := 7, cells := 0, slots := 0, locals := 160 } : Room) s m args below meth c H locs 0 0 (MQ below (va_Qi (xR r2) (yB dC dI cI cJ cB h v i2 j2 a2 b2 A) A) args s 0 0 A) (F0 m 35 ls [])) (i : Nat → Int32) (j : Nat → Int64) (a : Nat → Nat → Int32) (b : Nat → Nat → Int64) (v1 : Int32) (v2 : Int32) (v3 : Int32) (v4 : Int32) (hm : m_Model_scan_b89 n rc_35 i j a b v1 v2 v3 v4 = some (i2, j2, a2, b2, r2)) : ∀ (H : Heap) (locs : List Loc) (ls : Array Slot), va_P (dC, dI) classes (MW cI cJ cB h v i j a b) H → va_D A (MW cI cJ cB h v i j a b) → va_S A s.heap H locs → lv_has ls 10 [(0, .ref h), (1, .int v1), (2, .int v2), (3, .int v3), (4, .int v4)] → W p l e ({ frames := 7, cells := 0, slots := 0, locals := 160 } : Room) s m args below meth c H locs 0 0 (MQ below (va_Qi (xR r2) (yB dC dI cI cJ cB h v i2 j2 a2 b2 A) A) args s 0 0 A) (F0 m 89 ls []) := by
  have htt : ∀ w ∈ tw_T, w.before _ s = true := fun w h => hts w (List.mem_cons_of_mem _ h)
  intro H locs ls hP hD hS hl
  rw [m_Model_scan_b89] at hm
  obtain ⟨x_1, ex_1⟩ : ∃ y9 : Int32, y9 = v4 + 1 := ⟨_, rfl⟩
  replace hm := ob1_at ex_1 hm
  refine lv_iinc (v := x_1) (lv' := [(4, .int x_1), (0, .ref h), (1, .int v1), (2, .int v2), (3, .int v3)]) hx hb d_Model_scan_89 hl (k := 4) rfl (by rw [ex_1]; rfl) (by decide) rfl (fun ls hl => ?_)
  refine lv_goto (tgt := 35) hx hb d_Model_scan_92 (by decide) ?_
  exact Hrc_35 _ _ _ _ _ _ _ _ hm _ _ _ hP hD hS (lv_sub hl [1, 2, 3, 4, 0] rfl)
def m_Model_scan_b640 (n : Nat) (rc_35 : (Nat → Int32) → (Nat → Int64) → (Nat → Nat → Int32) → (Nat → Nat → Int64) → Int32 → Int32 → Int32 → Int32 → Option ((Nat → Int32) × (Nat → Int64) × (Nat → Nat → Int32) × (Nat → Nat → Int64) × Int32)) (i : Nat → Int32) (j : Nat → Int64) (a : Nat → Nat → Int32) (b : Nat → Nat → Int64) (v1 : Int32) (v2 : Int32) (v3 : Int32) (v6 : Int32) : Option ((Nat → Int32) × (Nat → Int64) × (Nat → Nat → Int32) × (Nat → Nat → Int64) × Int32) := rc_35 i j a b v1 v2 v3 v6
set_option maxHeartbeats 4000000 in
set_option maxRecDepth 100000 in
theorem lb_Model_scan_640 (l : Launch) (dC : Nat → ClassId) (dI : Nat → Nat → Nat) (cI cJ cB : ClassId) (adK adV adA : Nat → Nat) (h : Nat) (v : Nat → Nat) (n : Nat) {p : Program} {e : Env} {s : State} {m : MethodId} {args : Array Value} {below : List Frame} {meth : Method} {c : Code} {A : Nat → Prop} (hx : p.tables.exec = Jvm.exec) (hb : c.code = b_Model_scan) (hml : c.maxLocals = 10) (hown : s.vm.findClass R_Model = some m.cls) (hts : ∀ w ∈ w_Model_scan, w.before args s = true) (hK : va_K (dC, dI) classes [(cI, .int), (cJ, .long), (cB, .byte)] s) (hE : tw_E adK adV adA A s s.heap) (hA : ∀ q : Nat, s.heap.size ≤ q → A q) (hr : meth.sig.returnType = (some .boolean)) (hlocks : meth.locks = false) {i2 : Nat → Int32} {j2 : Nat → Int64} {a2 : Nat → Nat → Int32} {b2 : Nat → Nat → Int64} {r2 : Int32} (rc_35 : (Nat → Int32) → (Nat → Int64) → (Nat → Nat → Int32) → (Nat → Nat → Int64) → Int32 → Int32 → Int32 → Int32 → Option ((Nat → Int32) × (Nat → Int64) × (Nat → Nat → Int32) × (Nat → Nat → Int64) × Int32)) (Hrc_35 : ∀ (i : Nat → Int32) (j : Nat → Int64) (a : Nat → Nat → Int32) (b : Nat → Nat → Int64) (v1 : Int32) (v2 : Int32) (v3 : Int32) (v4 : Int32), rc_35 i j a b v1 v2 v3 v4 = some (i2, j2, a2, b2, r2) → ∀ (H : Heap) (locs : List Loc) (ls : Array Slot), va_P (dC, dI) classes (MW cI cJ cB h v i j a b) H → va_D A (MW cI cJ cB h v i j a b) → va_S A s.heap H locs → lv_has ls 10 [(0, .ref h), (1, .int v1), (2, .int v2), (3, .int v3), (4, .int v4)] → W p l e ({ frames := 7, cells := 0, slots := 0, locals := 160 } : Room) s m args below meth c H locs 0 0 (MQ below (va_Qi (xR r2) (yB dC dI cI cJ cB h v i2 j2 a2 b2 A) A) args s 0 0 A) (F0 m 35 ls [])) (i : Nat → Int32) (j : Nat → Int64) (a : Nat → Nat → Int32) (b : Nat → Nat → Int64) (v1 : Int32) (v2 : Int32) (v3 : Int32) (v6 : Int32) (hm : m_Model_scan_b640 n rc_35 i j a b v1 v2 v3 v6 = some (i2, j2, a2, b2, r2)) : ∀ (H : Heap) (locs : List Loc) (ls : Array Slot), va_P (dC, dI) classes (MW cI cJ cB h v i j a b) H → va_D A (MW cI cJ cB h v i j a b) → va_S A s.heap H locs → lv_has ls 10 [(0, .ref h), (1, .int v1), (2, .int v2), (3, .int v3), (6, .int v6)] → W p l e ({ frames := 7, cells := 0, slots := 0, locals := 160 } : Room) s m args below meth c H locs 0 0 (MQ below (va_Qi (xR r2) (yB dC dI cI cJ cB h v i2 j2 a2 b2 A) A) args s 0 0 A) (F0 m 640 ls []) := by
  have htt : ∀ w ∈ tw_T, w.before _ s = true := fun w h => hts w (List.mem_cons_of_mem _ h)
  intro H locs ls hP hD hS hl
  rw [m_Model_scan_b640] at hm
  refine lv_iload hx hb d_Model_scan_640 (lv_at hl 4 rfl) ?_
  refine lv_istore (lv' := [(4, .int v6), (0, .ref h), (1, .int v1), (2, .int v2), (3, .int v3), (6, .int v6)]) hx hb d_Model_scan_642 hl (by decide) rfl (fun ls hl => ?_)
  refine lv_goto (tgt := 35) hx hb d_Model_scan_644 (by decide) ?_
  exact Hrc_35 _ _ _ _ _ _ _ _ hm _ _ _ hP hD hS (lv_sub hl [1, 2, 3, 4, 0] rfl)
def m_Model_scan_b629 (n : Nat) (rc_35 : (Nat → Int32) → (Nat → Int64) → (Nat → Nat → Int32) → (Nat → Nat → Int64) → Int32 → Int32 → Int32 → Int32 → Option ((Nat → Int32) × (Nat → Int64) × (Nat → Nat → Int32) × (Nat → Nat → Int64) × Int32)) (i : Nat → Int32) (j : Nat → Int64) (a : Nat → Nat → Int32) (b : Nat → Nat → Int64) (v1 : Int32) (v2 : Int32) (v3 : Int32) (v6 : Int32) (v9 : Int32) : Option ((Nat → Int32) × (Nat → Int64) × (Nat → Nat → Int32) × (Nat → Nat → Int64) × Int32) := if v1 = ((0 : Int32)) then m_Model_scan_b640 n rc_35 i j a b v1 v2 v3 v6 else om (m_Model_definition n i j a b v9 v3) (fun i_3 j_4 a_5 b_6 r_7 => m_Model_scan_b640 n rc_35 i_3 j_4 a_5 b_6 v1 v2 v3 v6)
set_option maxHeartbeats 4000000 in
set_option maxRecDepth 100000 in
theorem lb_Model_scan_629 (l : Launch) (dC : Nat → ClassId) (dI : Nat → Nat → Nat) (cI cJ cB : ClassId) (adK adV adA : Nat → Nat) (h : Nat) (v : Nat → Nat) (n : Nat) {p : Program} {e : Env} {s : State} {m : MethodId} {args : Array Value} {below : List Frame} {meth : Method} {c : Code} {A : Nat → Prop} (hx : p.tables.exec = Jvm.exec) (hb : c.code = b_Model_scan) (hml : c.maxLocals = 10) (hown : s.vm.findClass R_Model = some m.cls) (hts : ∀ w ∈ w_Model_scan, w.before args s = true) (hK : va_K (dC, dI) classes [(cI, .int), (cJ, .long), (cB, .byte)] s) (hE : tw_E adK adV adA A s s.heap) (hA : ∀ q : Nat, s.heap.size ≤ q → A q) (hr : meth.sig.returnType = (some .boolean)) (hlocks : meth.locks = false) {i2 : Nat → Int32} {j2 : Nat → Int64} {a2 : Nat → Nat → Int32} {b2 : Nat → Nat → Int64} {r2 : Int32} (rc_35 : (Nat → Int32) → (Nat → Int64) → (Nat → Nat → Int32) → (Nat → Nat → Int64) → Int32 → Int32 → Int32 → Int32 → Option ((Nat → Int32) × (Nat → Int64) × (Nat → Nat → Int32) × (Nat → Nat → Int64) × Int32)) (Hrc_35 : ∀ (i : Nat → Int32) (j : Nat → Int64) (a : Nat → Nat → Int32) (b : Nat → Nat → Int64) (v1 : Int32) (v2 : Int32) (v3 : Int32) (v4 : Int32), rc_35 i j a b v1 v2 v3 v4 = some (i2, j2, a2, b2, r2) → ∀ (H : Heap) (locs : List Loc) (ls : Array Slot), va_P (dC, dI) classes (MW cI cJ cB h v i j a b) H → va_D A (MW cI cJ cB h v i j a b) → va_S A s.heap H locs → lv_has ls 10 [(0, .ref h), (1, .int v1), (2, .int v2), (3, .int v3), (4, .int v4)] → W p l e ({ frames := 7, cells := 0, slots := 0, locals := 160 } : Room) s m args below meth c H locs 0 0 (MQ below (va_Qi (xR r2) (yB dC dI cI cJ cB h v i2 j2 a2 b2 A) A) args s 0 0 A) (F0 m 35 ls [])) (i : Nat → Int32) (j : Nat → Int64) (a : Nat → Nat → Int32) (b : Nat → Nat → Int64) (v1 : Int32) (v2 : Int32) (v3 : Int32) (v6 : Int32) (v9 : Int32) (hm : m_Model_scan_b629 n rc_35 i j a b v1 v2 v3 v6 v9 = some (i2, j2, a2, b2, r2)) : ∀ (H : Heap) (locs : List Loc) (ls : Array Slot), va_P (dC, dI) classes (MW cI cJ cB h v i j a b) H → va_D A (MW cI cJ cB h v i j a b) → va_S A s.heap H locs → lv_has ls 10 [(0, .ref h), (1, .int v1), (2, .int v2), (3, .int v3), (6, .int v6), (9, .int v9)] → W p l e ({ frames := 7, cells := 0, slots := 0, locals := 160 } : Room) s m args below meth c H locs 0 0 (MQ below (va_Qi (xR r2) (yB dC dI cI cJ cB h v i2 j2 a2 b2 A) A) args s 0 0 A) (F0 m 629 ls []) := by
  have htt : ∀ w ∈ tw_T, w.before _ s = true := fun w h => hts w (List.mem_cons_of_mem _ h)
  intro H locs ls hP hD hS hl
  rw [m_Model_scan_b629] at hm
  refine lv_iload_n hx hb d_Model_scan_629 rfl (lv_at hl 1 rfl) ?_
  refine lv_if_eq (tgt := 640) hx hb d_Model_scan_630 (by decide) (fun c_1 => ?_) (fun c_1 => ?_)
  · replace hm := if_t c_1 hm
    exact lb_Model_scan_640 l dC dI cI cJ cB adK adV adA h v n hx hb hml hown hts hK hE hA hr hlocks rc_35 Hrc_35 _ _ _ _ _ _ _ _ hm _ _ _ hP hD hS (lv_sub hl [0, 1, 2, 3, 4] rfl)
  · replace hm := if_f c_1 hm
    refine lv_aload_n hx hb d_Model_scan_633 rfl (lv_at hl 0 rfl) ?_
    refine lv_iload hx hb d_Model_scan_634 (lv_at hl 5 rfl) ?_
    refine lv_iload_n hx hb d_Model_scan_636 rfl (lv_at hl 3 rfl) ?_
    obtain ⟨i_3, j_4, a_5, b_6, r_7, h_2, hm⟩ := om_some hm
    have hFc := x_free hD hS hA
    refine va_callv (va_runV (As := [.int v9, .int v3]) (rest := []) ⟨hx, hb, hml, hown, hts⟩ (x_Model_definition l dC dI cI cJ cB adK adV adA h v H.size n h_2) (cwV 2 hts (tw_GV tw_cons cw_Model_definition lk_Model_458 in_Model_definition sel_Model_definition ini_Model) rfl rfl rfl ⟨rfl, hd_Model_definition⟩ ⟨Nat.le_of_ble_eq_true rfl, Nat.le_of_ble_eq_true rfl⟩) (ypV hK hP hD hS hE hFc yo_12 rfl) rfl rfl hl.1 rfl (lv_room (Nat.le_of_ble_eq_true rfl)) d_Model_scan_637 ⟨Nat.le_of_ble_eq_true rfl, Nat.le_of_ble_eq_true rfl⟩) hS (fun q _ h => hFc q h) hFc (fun u9 t9 H locs ht hvm e9 hB hz1 hk1 hS => ?_)
    obtain ⟨hP, hD⟩ := y_aft hB ht hFc
    clear hFc hk1 hz1 hvm hB ht
    exact lb_Model_scan_640 l dC dI cI cJ cB adK adV adA h v n hx hb hml hown hts hK hE hA hr hlocks rc_35 Hrc_35 _ _ _ _ _ _ _ _ hm _ _ _ hP hD hS (lv_sub hl [0, 1, 2, 3, 4] rfl)
def m_Model_scan_b547 (n : Nat) (rc_35 : (Nat → Int32) → (Nat → Int64) → (Nat → Nat → Int32) → (Nat → Nat → Int64) → Int32 → Int32 → Int32 → Int32 → Option ((Nat → Int32) × (Nat → Int64) × (Nat → Nat → Int32) × (Nat → Nat → Int64) × Int32)) (i : Nat → Int32) (j : Nat → Int64) (a : Nat → Nat → Int32) (b : Nat → Nat → Int64) (v1 : Int32) (v2 : Int32) (v3 : Int32) (v4 : Int32) (v6 : Int32) (v8 : Int32) (v9 : Int32) : Option ((Nat → Int32) × (Nat → Int64) × (Nat → Nat → Int32) × (Nat → Nat → Int64) × Int32) := if v8 = ((1 : Int32)) then ob0 (m_Model_number n (i 28)) (fun r_17 => ck v9 601 (ob1 (svl b 80 v9.toNatClampNeg r_17 : Nat → Nat → Int64) (fun b_19 => m_Model_scan_b629 n rc_35 i j a b_19 v1 v2 v3 v6 v9))) else cy v4 (i 18) (v6 - v4) 4000 300000 (cyb (a 73) v4 (v6 - v4) (ob1 (updA a 1 (va_cpy (a 73) (a 1) v4.toNatClampNeg (i 18).toNatClampNeg (v6 - v4).toNatClampNeg) : Nat → Nat → Int32) (fun a_3 => om (m_Model_newWord n i j a_3 b (i 18) (v6 - v4)) (fun i_5 j_6 a_7 b_8 r_9 => ob0 (m_Model_wordValue n r_9) (fun r_11 => ck v9 601 (ob1 (svl b_8 80 v9.toNatClampNeg r_11 : Nat → Nat → Int64) (fun b_13 => ob1 ((i_5 18) + (v6 - v4) : Int32) (fun x_14 => ob1 (upd i_5 18 x_14 : Nat → Int32) (fun i_15 => m_Model_scan_b629 n rc_35 i_15 j_6 a_7 b_13 v1 v2 v3 v6 v9)))))))))
set_option maxHeartbeats 4000000 in
set_option maxRecDepth 100000 in
theorem lb_Model_scan_547 (l : Launch) (dC : Nat → ClassId) (dI : Nat → Nat → Nat) (cI cJ cB : ClassId) (adK adV adA : Nat → Nat) (h : Nat) (v : Nat → Nat) (n : Nat) {p : Program} {e : Env} {s : State} {m : MethodId} {args : Array Value} {below : List Frame} {meth : Method} {c : Code} {A : Nat → Prop} (hx : p.tables.exec = Jvm.exec) (hb : c.code = b_Model_scan) (hml : c.maxLocals = 10) (hown : s.vm.findClass R_Model = some m.cls) (hts : ∀ w ∈ w_Model_scan, w.before args s = true) (hK : va_K (dC, dI) classes [(cI, .int), (cJ, .long), (cB, .byte)] s) (hE : tw_E adK adV adA A s s.heap) (hA : ∀ q : Nat, s.heap.size ≤ q → A q) (hr : meth.sig.returnType = (some .boolean)) (hlocks : meth.locks = false) {i2 : Nat → Int32} {j2 : Nat → Int64} {a2 : Nat → Nat → Int32} {b2 : Nat → Nat → Int64} {r2 : Int32} (rc_35 : (Nat → Int32) → (Nat → Int64) → (Nat → Nat → Int32) → (Nat → Nat → Int64) → Int32 → Int32 → Int32 → Int32 → Option ((Nat → Int32) × (Nat → Int64) × (Nat → Nat → Int32) × (Nat → Nat → Int64) × Int32)) (Hrc_35 : ∀ (i : Nat → Int32) (j : Nat → Int64) (a : Nat → Nat → Int32) (b : Nat → Nat → Int64) (v1 : Int32) (v2 : Int32) (v3 : Int32) (v4 : Int32), rc_35 i j a b v1 v2 v3 v4 = some (i2, j2, a2, b2, r2) → ∀ (H : Heap) (locs : List Loc) (ls : Array Slot), va_P (dC, dI) classes (MW cI cJ cB h v i j a b) H → va_D A (MW cI cJ cB h v i j a b) → va_S A s.heap H locs → lv_has ls 10 [(0, .ref h), (1, .int v1), (2, .int v2), (3, .int v3), (4, .int v4)] → W p l e ({ frames := 7, cells := 0, slots := 0, locals := 160 } : Room) s m args below meth c H locs 0 0 (MQ below (va_Qi (xR r2) (yB dC dI cI cJ cB h v i2 j2 a2 b2 A) A) args s 0 0 A) (F0 m 35 ls [])) (i : Nat → Int32) (j : Nat → Int64) (a : Nat → Nat → Int32) (b : Nat → Nat → Int64) (v1 : Int32) (v2 : Int32) (v3 : Int32) (v4 : Int32) (v6 : Int32) (v8 : Int32) (v9 : Int32) (hm : m_Model_scan_b547 n rc_35 i j a b v1 v2 v3 v4 v6 v8 v9 = some (i2, j2, a2, b2, r2)) : ∀ (H : Heap) (locs : List Loc) (ls : Array Slot), va_P (dC, dI) classes (MW cI cJ cB h v i j a b) H → va_D A (MW cI cJ cB h v i j a b) → va_S A s.heap H locs → lv_has ls 10 [(0, .ref h), (1, .int v1), (2, .int v2), (3, .int v3), (4, .int v4), (6, .int v6), (8, .int v8), (9, .int v9)] → W p l e ({ frames := 7, cells := 0, slots := 0, locals := 160 } : Room) s m args below meth c H locs 0 0 (MQ below (va_Qi (xR r2) (yB dC dI cI cJ cB h v i2 j2 a2 b2 A) A) args s 0 0 A) (F0 m 547 ls []) := by
  have htt : ∀ w ∈ tw_T, w.before _ s = true := fun w h => hts w (List.mem_cons_of_mem _ h)
  intro H locs ls hP hD hS hl
  rw [m_Model_scan_b547] at hm
  refine lv_iload hx hb d_Model_scan_547 (lv_at hl 6 rfl) ?_
  refine lv_iconst (v := 1) hx hb d_Model_scan_549 (by decide) ?_
  refine lv_icmp_ne (tgt := 570) hx hb d_Model_scan_550 (by decide) (fun c_1 => ?_) (fun c_1 => ?_)
  · replace hm := if_f c_1 hm
    refine lv_aload_n hx hb d_Model_scan_570 rfl (lv_at hl 0 rfl) ?_
    refine va_get (D := (dC, dI)) (ci := 12) (v := .ref ((v 73))) (C := R_Model) (T := F_Model) (N := 127) hx hb htt iw_Model hown hK hP 0 yo_12 rfl 73 (Nat.le_of_ble_eq_true rfl) (htt _ lk_Model_261) (fun _ h9 => h9) yg_73 d_Model_scan_571 ?_
    refine lv_iload hx hb d_Model_scan_574 (lv_at hl 4 rfl) ?_
    refine lv_aload_n hx hb d_Model_scan_576 rfl (lv_at hl 0 rfl) ?_
    refine va_get (D := (dC, dI)) (ci := 12) (v := .ref ((v 1))) (C := R_Model) (T := F_Model) (N := 127) hx hb htt iw_Model hown hK hP 0 yo_12 rfl 1 (Nat.le_of_ble_eq_true rfl) (htt _ lk_Model_67) (fun _ h9 => h9) yg_1 d_Model_scan_577 ?_
    refine lv_aload_n hx hb d_Model_scan_580 rfl (lv_at hl 0 rfl) ?_
    refine va_get (D := (dC, dI)) (ci := 12) (v := .int (i 18)) (C := R_Model) (T := F_Model) (N := 127) hx hb htt iw_Model hown hK hP 0 yo_12 rfl 18 (Nat.le_of_ble_eq_true rfl) (htt _ lk_Model_372) (fun _ h9 => h9) yg_18 d_Model_scan_581 ?_
    refine lv_iload hx hb d_Model_scan_584 (lv_at hl 5 rfl) ?_
    refine lv_iload hx hb d_Model_scan_586 (lv_at hl 4 rfl) ?_
    refine lv_isub hx hb d_Model_scan_588 ?_
    obtain ⟨h_2a, h_2b, h_2c, h_2d, h_2e, hm⟩ := cy_some hm
    obtain ⟨h_2f, hm⟩ := cyb_some hm
    refine va_copyi hx hb (by rw [hml]; exact hl.1.symm) hown (htt _ lk_Model_334) (htt _ na_arraycopy) (htt _ st_arraycopy) (htt _ ini_System) hK hP hD hS 49 1 2 2 (ty := .byte) ya_73 ya_1 rfl rfl rfl h_2a h_2b h_2c h_2d h_2e h_2f (Nat.le_of_ble_eq_true rfl) (Nat.le_of_ble_eq_true rfl) d_Model_scan_589 (fun H locs hP hD hS => ?_)
    obtain ⟨a_3, ea_3⟩ : ∃ y9 : Nat → Nat → Int32, y9 = updA a 1 (va_cpy (a 73) (a 1) v4.toNatClampNeg (i 18).toNatClampNeg (v6 - v4).toNatClampNeg) := ⟨_, rfl⟩
    replace hm := ob1_at ea_3 hm
    obtain ⟨hP, hD⟩ := yv_1 ea_3 hP hD
    refine lv_aload_n hx hb d_Model_scan_592 rfl (lv_at hl 0 rfl) ?_
    refine va_get (D := (dC, dI)) (ci := 12) (v := .ref ((v 80))) (C := R_Model) (T := F_Model) (N := 127) hx hb htt iw_Model hown hK hP 0 yo_12 rfl 80 (Nat.le_of_ble_eq_true rfl) (htt _ lk_Model_276) (fun _ h9 => h9) yg_80 d_Model_scan_593 ?_
    refine lv_iload hx hb d_Model_scan_596 (lv_at hl 7 rfl) ?_
    refine lv_aload_n hx hb d_Model_scan_598 rfl (lv_at hl 0 rfl) ?_
    refine lv_aload_n hx hb d_Model_scan_599 rfl (lv_at hl 0 rfl) ?_
    refine va_get (D := (dC, dI)) (ci := 12) (v := .int (i 18)) (C := R_Model) (T := F_Model) (N := 127) hx hb htt iw_Model hown hK hP 0 yo_12 rfl 18 (Nat.le_of_ble_eq_true rfl) (htt _ lk_Model_372) (fun _ h9 => h9) yg_18 d_Model_scan_600 ?_
    refine lv_iload hx hb d_Model_scan_603 (lv_at hl 5 rfl) ?_
    refine lv_iload hx hb d_Model_scan_605 (lv_at hl 4 rfl) ?_
    refine lv_isub hx hb d_Model_scan_607 ?_
    obtain ⟨i_5, j_6, a_7, b_8, r_9, h_4, hm⟩ := om_some hm
    have hFc := x_free hD hS hA
    refine va_calli (va_runV (As := [.int (i 18), .int (v6 - v4)]) (rest := [.int v9, .ref ((v 80))]) ⟨hx, hb, hml, hown, hts⟩ (x_Model_newWord l dC dI cI cJ cB adK adV adA h v H.size n h_4) (cwV 2 hts (tw_GV tw_cons cw_Model_newWord lk_Model_454 in_Model_newWord sel_Model_newWord ini_Model) rfl rfl rfl ⟨rfl, hd_Model_newWord⟩ ⟨Nat.le_of_ble_eq_true rfl, Nat.le_of_ble_eq_true rfl⟩) (ypV hK hP hD hS hE hFc yo_12 rfl) rfl rfl hl.1 rfl (lv_room (Nat.le_of_ble_eq_true rfl)) d_Model_scan_608 ⟨Nat.le_of_ble_eq_true rfl, Nat.le_of_ble_eq_true rfl⟩) hS (fun q _ h => hFc q h) hFc (fun r9 u9 t9 H locs ht hvm e9 hB hz1 hk1 hS => ?_)
    have e9 : r_9 = r9 := e9
    subst e9
    obtain ⟨hP, hD⟩ := y_aft hB ht hFc
    clear hFc hk1 hz1 hvm hB ht
    obtain ⟨r_11, h_10, hm⟩ := ob0_some hm
    have hFc := x_free0 hS hA
    refine va_calll (va_runS (As := [.int r_9]) (rest := [.int v9, .ref ((v 80))]) ⟨hx, hb, hml, hown, hts⟩ (x_Model_wordValue l H.size n h_10) (va_cwS 1 hts (tw_GS tw_cons cw_Model_wordValue lk_Model_396 st_Model_wordValue ini_Model) rfl rfl rfl hd_Model_wordValue ⟨Nat.le_of_ble_eq_true rfl, Nat.le_of_ble_eq_true rfl⟩) xpS0 rfl rfl hl.1 rfl (lv_room (Nat.le_of_ble_eq_true rfl)) d_Model_scan_611 ⟨Nat.le_of_ble_eq_true rfl, Nat.le_of_ble_eq_true rfl⟩) hS (fun q _ h => hFc q h) hFc (fun r9 u9 t9 H locs ht hvm e9 hB hz1 hk1 hS => ?_)
    have e9 : r_11 = r9 := e9
    subst e9
    replace hP := x_keep hP hk1
    clear hFc hk1 hz1 hvm hB ht
    obtain ⟨h_12, hm⟩ := ck_some hm
    refine va_last hx hb hK hP hD hS 53 1 ya_80 rfl h_12 d_Model_scan_614 (fun H locs hP hD hS => ?_)
    obtain ⟨b_13, eb_13⟩ : ∃ y9 : Nat → Nat → Int64, y9 = svl b_8 80 v9.toNatClampNeg r_11 := ⟨_, rfl⟩
    replace hm := ob1_at eb_13 hm
    obtain ⟨hP, hD⟩ := yv_80 eb_13 hP hD
    refine lv_aload_n hx hb d_Model_scan_615 rfl (lv_at hl 0 rfl) ?_
    refine lv_dup hx hb d_Model_scan_616 rfl ?_
    refine va_get (D := (dC, dI)) (ci := 12) (v := .int (i_5 18)) (C := R_Model) (T := F_Model) (N := 127) hx hb htt iw_Model hown hK hP 0 yo_12 rfl 18 (Nat.le_of_ble_eq_true rfl) (htt _ lk_Model_372) (fun _ h9 => h9) yg_18 d_Model_scan_617 ?_
    refine lv_iload hx hb d_Model_scan_620 (lv_at hl 5 rfl) ?_
    refine lv_iload hx hb d_Model_scan_622 (lv_at hl 4 rfl) ?_
    refine lv_isub hx hb d_Model_scan_624 ?_
    refine lv_iadd hx hb d_Model_scan_625 ?_
    refine lv_topi (fun x_14 ex_14 => ?_)
    replace hm := ob1_at ex_14 hm
    refine va_put (D := (dC, dI)) (ci := 12) (v := .int x_14) (ty := .int) (C := R_Model) (T := F_Model) (N := 127) hx hb htt iw_Model t_Model t_Model_ok n_Model hown hK hP hD hS 0 yo_12 rfl 18 (Nat.le_of_ble_eq_true rfl) (htt _ lk_Model_372) (fun _ h9 => h9) rfl (by decide +kernel) rfl rfl yl_18 d_Model_scan_626 (fun H locs hP hD hS => ?_)
    obtain ⟨i_15, ei_15⟩ : ∃ y9 : Nat → Int32, y9 = upd i_5 18 x_14 := ⟨_, rfl⟩
    replace hm := ob1_at ei_15 hm
    obtain ⟨hP, hD⟩ := yw_18 ei_15 hP hD
    exact lb_Model_scan_629 l dC dI cI cJ cB adK adV adA h v n hx hb hml hown hts hK hE hA hr hlocks rc_35 Hrc_35 _ _ _ _ _ _ _ _ _ hm _ _ _ hP hD hS (lv_sub hl [0, 1, 2, 3, 5, 7] rfl)
  · replace hm := if_t c_1 hm
    refine lv_aload_n hx hb d_Model_scan_553 rfl (lv_at hl 0 rfl) ?_
    refine va_get (D := (dC, dI)) (ci := 12) (v := .ref ((v 80))) (C := R_Model) (T := F_Model) (N := 127) hx hb htt iw_Model hown hK hP 0 yo_12 rfl 80 (Nat.le_of_ble_eq_true rfl) (htt _ lk_Model_276) (fun _ h9 => h9) yg_80 d_Model_scan_554 ?_
    refine lv_iload hx hb d_Model_scan_557 (lv_at hl 7 rfl) ?_
    refine lv_aload_n hx hb d_Model_scan_559 rfl (lv_at hl 0 rfl) ?_
    refine va_get (D := (dC, dI)) (ci := 12) (v := .int (i 28)) (C := R_Model) (T := F_Model) (N := 127) hx hb htt iw_Model hown hK hP 0 yo_12 rfl 28 (Nat.le_of_ble_eq_true rfl) (htt _ lk_Model_146) (fun _ h9 => h9) yg_28 d_Model_scan_560 ?_
    obtain ⟨r_17, h_16, hm⟩ := ob0_some hm
    have hFc := x_free0 hS hA
    refine va_calll (va_runS (As := [.int (i 28)]) (rest := [.int v9, .ref ((v 80))]) ⟨hx, hb, hml, hown, hts⟩ (x_Model_number l H.size n h_16) (va_cwS 1 hts (tw_GS tw_cons cw_Model_number lk_Model_451 st_Model_number ini_Model) rfl rfl rfl hd_Model_number ⟨Nat.le_of_ble_eq_true rfl, Nat.le_of_ble_eq_true rfl⟩) xpS0 rfl rfl hl.1 rfl (lv_room (Nat.le_of_ble_eq_true rfl)) d_Model_scan_563 ⟨Nat.le_of_ble_eq_true rfl, Nat.le_of_ble_eq_true rfl⟩) hS (fun q _ h => hFc q h) hFc (fun r9 u9 t9 H locs ht hvm e9 hB hz1 hk1 hS => ?_)
    have e9 : r_17 = r9 := e9
    subst e9
    replace hP := x_keep hP hk1
    clear hFc hk1 hz1 hvm hB ht
    obtain ⟨h_18, hm⟩ := ck_some hm
    refine va_last hx hb hK hP hD hS 53 1 ya_80 rfl h_18 d_Model_scan_566 (fun H locs hP hD hS => ?_)
    obtain ⟨b_19, eb_19⟩ : ∃ y9 : Nat → Nat → Int64, y9 = svl b 80 v9.toNatClampNeg r_17 := ⟨_, rfl⟩
    replace hm := ob1_at eb_19 hm
    obtain ⟨hP, hD⟩ := yv_80 eb_19 hP hD
    refine lv_goto (tgt := 629) hx hb d_Model_scan_567 (by decide) ?_
    exact lb_Model_scan_629 l dC dI cI cJ cB adK adV adA h v n hx hb hml hown hts hK hE hA hr hlocks rc_35 Hrc_35 _ _ _ _ _ _ _ _ _ hm _ _ _ hP hD hS (lv_sub hl [0, 1, 2, 3, 5, 7] rfl)
def m_Model_scan_b506 (n : Nat) (rc_35 : (Nat → Int32) → (Nat → Int64) → (Nat → Nat → Int32) → (Nat → Nat → Int64) → Int32 → Int32 → Int32 → Int32 → Option ((Nat → Int32) × (Nat → Int64) × (Nat → Nat → Int32) × (Nat → Nat → Int64) × Int32)) (i : Nat → Int32) (j : Nat → Int64) (a : Nat → Nat → Int32) (b : Nat → Nat → Int64) (v1 : Int32) (v2 : Int32) (v3 : Int32) (v4 : Int32) (v5 : Int32) (v6 : Int32) (v7 : Int32) (v8 : Int32) (v9 : Int32) : Option ((Nat → Int32) × (Nat → Int64) × (Nat → Nat → Int32) × (Nat → Nat → Int64) × Int32) := if v5 = ((93 : Int32)) then if v7 = ((0 : Int32)) then m_Model_scan_b547 n rc_35 i j a b v1 v2 v3 v4 v6 v8 v9 else ob1 (v3 + (-1) : Int32) (fun x_3 => ck x_3 21 (ck ((a 82 x_3.toNatClampNeg)) 601 (ob1 (sv a 79 (a 82 x_3.toNatClampNeg).toNatClampNeg v9 : Nat → Nat → Int32) (fun a_6 => ck v9 601 (ob1 (svl b 80 v9.toNatClampNeg 3 : Nat → Nat → Int64) (fun b_8 => m_Model_scan_b629 n rc_35 i j a_6 b_8 v1 v2 x_3 v6 v9)))))) else m_Model_scan_b547 n rc_35 i j a b v1 v2 v3 v4 v6 v8 v9
set_option maxHeartbeats 4000000 in
set_option maxRecDepth 100000 in
theorem lb_Model_scan_506 (l : Launch) (dC : Nat → ClassId) (dI : Nat → Nat → Nat) (cI cJ cB : ClassId) (adK adV adA : Nat → Nat) (h : Nat) (v : Nat → Nat) (n : Nat) {p : Program} {e : Env} {s : State} {m : MethodId} {args : Array Value} {below : List Frame} {meth : Method} {c : Code} {A : Nat → Prop} (hx : p.tables.exec = Jvm.exec) (hb : c.code = b_Model_scan) (hml : c.maxLocals = 10) (hown : s.vm.findClass R_Model = some m.cls) (hts : ∀ w ∈ w_Model_scan, w.before args s = true) (hK : va_K (dC, dI) classes [(cI, .int), (cJ, .long), (cB, .byte)] s) (hE : tw_E adK adV adA A s s.heap) (hA : ∀ q : Nat, s.heap.size ≤ q → A q) (hr : meth.sig.returnType = (some .boolean)) (hlocks : meth.locks = false) {i2 : Nat → Int32} {j2 : Nat → Int64} {a2 : Nat → Nat → Int32} {b2 : Nat → Nat → Int64} {r2 : Int32} (rc_35 : (Nat → Int32) → (Nat → Int64) → (Nat → Nat → Int32) → (Nat → Nat → Int64) → Int32 → Int32 → Int32 → Int32 → Option ((Nat → Int32) × (Nat → Int64) × (Nat → Nat → Int32) × (Nat → Nat → Int64) × Int32)) (Hrc_35 : ∀ (i : Nat → Int32) (j : Nat → Int64) (a : Nat → Nat → Int32) (b : Nat → Nat → Int64) (v1 : Int32) (v2 : Int32) (v3 : Int32) (v4 : Int32), rc_35 i j a b v1 v2 v3 v4 = some (i2, j2, a2, b2, r2) → ∀ (H : Heap) (locs : List Loc) (ls : Array Slot), va_P (dC, dI) classes (MW cI cJ cB h v i j a b) H → va_D A (MW cI cJ cB h v i j a b) → va_S A s.heap H locs → lv_has ls 10 [(0, .ref h), (1, .int v1), (2, .int v2), (3, .int v3), (4, .int v4)] → W p l e ({ frames := 7, cells := 0, slots := 0, locals := 160 } : Room) s m args below meth c H locs 0 0 (MQ below (va_Qi (xR r2) (yB dC dI cI cJ cB h v i2 j2 a2 b2 A) A) args s 0 0 A) (F0 m 35 ls [])) (i : Nat → Int32) (j : Nat → Int64) (a : Nat → Nat → Int32) (b : Nat → Nat → Int64) (v1 : Int32) (v2 : Int32) (v3 : Int32) (v4 : Int32) (v5 : Int32) (v6 : Int32) (v7 : Int32) (v8 : Int32) (v9 : Int32) (hm : m_Model_scan_b506 n rc_35 i j a b v1 v2 v3 v4 v5 v6 v7 v8 v9 = some (i2, j2, a2, b2, r2)) : ∀ (H : Heap) (locs : List Loc) (ls : Array Slot), va_P (dC, dI) classes (MW cI cJ cB h v i j a b) H → va_D A (MW cI cJ cB h v i j a b) → va_S A s.heap H locs → lv_has ls 10 [(0, .ref h), (1, .int v1), (2, .int v2), (3, .int v3), (4, .int v4), (5, .int v5), (6, .int v6), (7, .int v7), (8, .int v8), (9, .int v9)] → W p l e ({ frames := 7, cells := 0, slots := 0, locals := 160 } : Room) s m args below meth c H locs 0 0 (MQ below (va_Qi (xR r2) (yB dC dI cI cJ cB h v i2 j2 a2 b2 A) A) args s 0 0 A) (F0 m 506 ls []) := by
  have htt : ∀ w ∈ tw_T, w.before _ s = true := fun w h => hts w (List.mem_cons_of_mem _ h)
  intro H locs ls hP hD hS hl
  rw [m_Model_scan_b506] at hm
  refine lv_iload hx hb d_Model_scan_506 (lv_at hl 5 rfl) ?_
  refine lv_bipush (v := 93) hx hb d_Model_scan_508 (by decide) ?_
  refine lv_icmp_ne (tgt := 547) hx hb d_Model_scan_510 (by decide) (fun c_1 => ?_) (fun c_1 => ?_)
  · replace hm := if_f c_1 hm
    exact lb_Model_scan_547 l dC dI cI cJ cB adK adV adA h v n hx hb hml hown hts hK hE hA hr hlocks rc_35 Hrc_35 _ _ _ _ _ _ _ _ _ _ _ hm _ _ _ hP hD hS (lv_sub hl [0, 1, 2, 3, 4, 6, 8, 9] rfl)
  · replace hm := if_t c_1 hm
    refine lv_iload hx hb d_Model_scan_513 (lv_at hl 7 rfl) ?_
    refine lv_if_eq (tgt := 547) hx hb d_Model_scan_515 (by decide) (fun c_2 => ?_) (fun c_2 => ?_)
    · replace hm := if_t c_2 hm
      exact lb_Model_scan_547 l dC dI cI cJ cB adK adV adA h v n hx hb hml hown hts hK hE hA hr hlocks rc_35 Hrc_35 _ _ _ _ _ _ _ _ _ _ _ hm _ _ _ hP hD hS (lv_sub hl [0, 1, 2, 3, 4, 6, 8, 9] rfl)
    · replace hm := if_f c_2 hm
      obtain ⟨x_3, ex_3⟩ : ∃ y9 : Int32, y9 = v3 + (-1) := ⟨_, rfl⟩
      replace hm := ob1_at ex_3 hm
      refine lv_iinc (v := x_3) (lv' := [(3, .int x_3), (0, .ref h), (1, .int v1), (2, .int v2), (4, .int v4), (5, .int v5), (6, .int v6), (7, .int v7), (8, .int v8), (9, .int v9)]) hx hb d_Model_scan_518 hl (k := 3) rfl (by rw [ex_3]; rfl) (by decide) rfl (fun ls hl => ?_)
      refine lv_aload_n hx hb d_Model_scan_521 rfl (lv_at hl 1 rfl) ?_
      refine va_get (D := (dC, dI)) (ci := 12) (v := .ref ((v 79))) (C := R_Model) (T := F_Model) (N := 127) hx hb htt iw_Model hown hK hP 0 yo_12 rfl 79 (Nat.le_of_ble_eq_true rfl) (htt _ lk_Model_273) (fun _ h9 => h9) yg_79 d_Model_scan_522 ?_
      refine lv_aload_n hx hb d_Model_scan_525 rfl (lv_at hl 1 rfl) ?_
      refine va_get (D := (dC, dI)) (ci := 12) (v := .ref ((v 82))) (C := R_Model) (T := F_Model) (N := 127) hx hb htt iw_Model hown hK hP 0 yo_12 rfl 82 (Nat.le_of_ble_eq_true rfl) (htt _ lk_Model_279) (fun _ h9 => h9) yg_82 d_Model_scan_526 ?_
      refine lv_iload_n hx hb d_Model_scan_529 rfl (lv_at hl 0 rfl) ?_
      obtain ⟨h_4, hm⟩ := ck_some hm
      refine va_iald hx hb hK hP 54 0 ya_82 rfl h_4 d_Model_scan_530 ?_
      refine lv_iload hx hb d_Model_scan_531 (lv_at hl 9 rfl) ?_
      obtain ⟨h_5, hm⟩ := ck_some hm
      refine va_iast hx hb hK hP hD hS 52 0 ya_79 rfl h_5 d_Model_scan_533 (fun H locs hP hD hS => ?_)
      obtain ⟨a_6, ea_6⟩ : ∃ y9 : Nat → Nat → Int32, y9 = sv a 79 (a 82 x_3.toNatClampNeg).toNatClampNeg v9 := ⟨_, rfl⟩
      replace hm := ob1_at ea_6 hm
      obtain ⟨hP, hD⟩ := yv_79 ea_6 hP hD
      refine lv_aload_n hx hb d_Model_scan_534 rfl (lv_at hl 1 rfl) ?_
      refine va_get (D := (dC, dI)) (ci := 12) (v := .ref ((v 80))) (C := R_Model) (T := F_Model) (N := 127) hx hb htt iw_Model hown hK hP 0 yo_12 rfl 80 (Nat.le_of_ble_eq_true rfl) (htt _ lk_Model_276) (fun _ h9 => h9) yg_80 d_Model_scan_535 ?_
      refine lv_iload hx hb d_Model_scan_538 (lv_at hl 9 rfl) ?_
      refine lv_ldc2 (v := 3) hx hb hown (htt _ lk_Model_7) d_Model_scan_540 ?_
      obtain ⟨h_7, hm⟩ := ck_some hm
      refine va_last hx hb hK hP hD hS 53 1 ya_80 rfl h_7 d_Model_scan_543 (fun H locs hP hD hS => ?_)
      obtain ⟨b_8, eb_8⟩ : ∃ y9 : Nat → Nat → Int64, y9 = svl b 80 v9.toNatClampNeg 3 := ⟨_, rfl⟩
      replace hm := ob1_at eb_8 hm
      obtain ⟨hP, hD⟩ := yv_80 eb_8 hP hD
      refine lv_goto (tgt := 629) hx hb d_Model_scan_544 (by decide) ?_
      exact lb_Model_scan_629 l dC dI cI cJ cB adK adV adA h v n hx hb hml hown hts hK hE hA hr hlocks rc_35 Hrc_35 _ _ _ _ _ _ _ _ _ hm _ _ _ hP hD hS (lv_sub hl [1, 2, 3, 0, 6, 9] rfl)
def m_Model_scan_b414 (n : Nat) (rc_35 : (Nat → Int32) → (Nat → Int64) → (Nat → Nat → Int32) → (Nat → Nat → Int64) → Int32 → Int32 → Int32 → Int32 → Option ((Nat → Int32) × (Nat → Int64) × (Nat → Nat → Int32) × (Nat → Nat → Int64) × Int32)) (i : Nat → Int32) (j : Nat → Int64) (a : Nat → Nat → Int32) (b : Nat → Nat → Int64) (v1 : Int32) (v2 : Int32) (v3 : Int32) (v4 : Int32) (v5 : Int32) (v6 : Int32) (v7 : Int32) (v8 : Int32) : Option ((Nat → Int32) × (Nat → Int64) × (Nat → Nat → Int32) × (Nat → Nat → Int64) × Int32) := if ((i 75)) = ((0 : Int32)) then ob1 (i 81 : Int32) (fun x_2 => ob1 ((i 81) + 1 : Int32) (fun x_3 => ob1 (upd i 81 x_3 : Nat → Int32) (fun i_4 => ck x_2 601 (ob1 (sv a 77 x_2.toNatClampNeg v4 : Nat → Nat → Int32) (fun a_6 => ck x_2 601 (ob1 (sv a_6 78 x_2.toNatClampNeg (v6 - v4) : Nat → Nat → Int32) (fun a_8 => ck x_2 601 (ob1 (sv a_8 79 x_2.toNatClampNeg x_2 : Nat → Nat → Int32) (fun a_10 => if v5 = ((91 : Int32)) then if v7 = ((0 : Int32)) then m_Model_scan_b506 n rc_35 i_4 j a_10 b v1 v2 v3 v4 v5 v6 v7 v8 x_2 else ck v3 21 (ob1 (sv a_10 82 v3.toNatClampNeg x_2 : Nat → Nat → Int32) (fun a_14 => ob1 (v3 + 1 : Int32) (fun x_15 => ck x_2 601 (ob1 (svl b 80 x_2.toNatClampNeg 3 : Nat → Nat → Int64) (fun b_17 => m_Model_scan_b629 n rc_35 i_4 j a_14 b_17 v1 v2 x_15 v6 x_2))))) else m_Model_scan_b506 n rc_35 i_4 j a_10 b v1 v2 v3 v4 v5 v6 v7 v8 x_2))))))))) else m_Model_scan_b647 n i j a b v1 v2 v3
set_option maxHeartbeats 4000000 in
set_option maxRecDepth 100000 in
theorem lb_Model_scan_414 (l : Launch) (dC : Nat → ClassId) (dI : Nat → Nat → Nat) (cI cJ cB : ClassId) (adK adV adA : Nat → Nat) (h : Nat) (v : Nat → Nat) (n : Nat) {p : Program} {e : Env} {s : State} {m : MethodId} {args : Array Value} {below : List Frame} {meth : Method} {c : Code} {A : Nat → Prop} (hx : p.tables.exec = Jvm.exec) (hb : c.code = b_Model_scan) (hml : c.maxLocals = 10) (hown : s.vm.findClass R_Model = some m.cls) (hts : ∀ w ∈ w_Model_scan, w.before args s = true) (hK : va_K (dC, dI) classes [(cI, .int), (cJ, .long), (cB, .byte)] s) (hE : tw_E adK adV adA A s s.heap) (hA : ∀ q : Nat, s.heap.size ≤ q → A q) (hr : meth.sig.returnType = (some .boolean)) (hlocks : meth.locks = false) {i2 : Nat → Int32} {j2 : Nat → Int64} {a2 : Nat → Nat → Int32} {b2 : Nat → Nat → Int64} {r2 : Int32} (rc_35 : (Nat → Int32) → (Nat → Int64) → (Nat → Nat → Int32) → (Nat → Nat → Int64) → Int32 → Int32 → Int32 → Int32 → Option ((Nat → Int32) × (Nat → Int64) × (Nat → Nat → Int32) × (Nat → Nat → Int64) × Int32)) (Hrc_35 : ∀ (i : Nat → Int32) (j : Nat → Int64) (a : Nat → Nat → Int32) (b : Nat → Nat → Int64) (v1 : Int32) (v2 : Int32) (v3 : Int32) (v4 : Int32), rc_35 i j a b v1 v2 v3 v4 = some (i2, j2, a2, b2, r2) → ∀ (H : Heap) (locs : List Loc) (ls : Array Slot), va_P (dC, dI) classes (MW cI cJ cB h v i j a b) H → va_D A (MW cI cJ cB h v i j a b) → va_S A s.heap H locs → lv_has ls 10 [(0, .ref h), (1, .int v1), (2, .int v2), (3, .int v3), (4, .int v4)] → W p l e ({ frames := 7, cells := 0, slots := 0, locals := 160 } : Room) s m args below meth c H locs 0 0 (MQ below (va_Qi (xR r2) (yB dC dI cI cJ cB h v i2 j2 a2 b2 A) A) args s 0 0 A) (F0 m 35 ls [])) (i : Nat → Int32) (j : Nat → Int64) (a : Nat → Nat → Int32) (b : Nat → Nat → Int64) (v1 : Int32) (v2 : Int32) (v3 : Int32) (v4 : Int32) (v5 : Int32) (v6 : Int32) (v7 : Int32) (v8 : Int32) (hm : m_Model_scan_b414 n rc_35 i j a b v1 v2 v3 v4 v5 v6 v7 v8 = some (i2, j2, a2, b2, r2)) : ∀ (H : Heap) (locs : List Loc) (ls : Array Slot), va_P (dC, dI) classes (MW cI cJ cB h v i j a b) H → va_D A (MW cI cJ cB h v i j a b) → va_S A s.heap H locs → lv_has ls 10 [(0, .ref h), (1, .int v1), (2, .int v2), (3, .int v3), (4, .int v4), (5, .int v5), (6, .int v6), (7, .int v7), (8, .int v8)] → W p l e ({ frames := 7, cells := 0, slots := 0, locals := 160 } : Room) s m args below meth c H locs 0 0 (MQ below (va_Qi (xR r2) (yB dC dI cI cJ cB h v i2 j2 a2 b2 A) A) args s 0 0 A) (F0 m 414 ls []) := by
  have htt : ∀ w ∈ tw_T, w.before _ s = true := fun w h => hts w (List.mem_cons_of_mem _ h)
  intro H locs ls hP hD hS hl
  rw [m_Model_scan_b414] at hm
  refine lv_aload_n hx hb d_Model_scan_414 rfl (lv_at hl 0 rfl) ?_
  refine va_get (D := (dC, dI)) (ci := 12) (v := .int (i 75)) (C := R_Model) (T := F_Model) (N := 127) hx hb htt iw_Model hown hK hP 0 yo_12 rfl 75 (Nat.le_of_ble_eq_true rfl) (htt _ lk_Model_416) (fun _ h9 => h9) yg_75 d_Model_scan_415 ?_
  refine lv_if_eq (tgt := 424) hx hb d_Model_scan_418 (by decide) (fun c_1 => ?_) (fun c_1 => ?_)
  · replace hm := if_t c_1 hm
    refine lv_aload_n hx hb d_Model_scan_424 rfl (lv_at hl 0 rfl) ?_
    refine va_get (D := (dC, dI)) (ci := 12) (v := .int (i 81)) (C := R_Model) (T := F_Model) (N := 127) hx hb htt iw_Model hown hK hP 0 yo_12 rfl 81 (Nat.le_of_ble_eq_true rfl) (htt _ lk_Model_425) (fun _ h9 => h9) yg_81 d_Model_scan_425 ?_
    refine lv_topi (fun x_2 ex_2 => ?_)
    replace hm := ob1_at ex_2 hm
    refine lv_istore (lv' := [(9, .int x_2), (0, .ref h), (1, .int v1), (2, .int v2), (3, .int v3), (4, .int v4), (5, .int v5), (6, .int v6), (7, .int v7), (8, .int v8)]) hx hb d_Model_scan_428 hl (by decide) rfl (fun ls hl => ?_)
    refine lv_aload_n hx hb d_Model_scan_430 rfl (lv_at hl 1 rfl) ?_
    refine lv_dup hx hb d_Model_scan_431 rfl ?_
    refine va_get (D := (dC, dI)) (ci := 12) (v := .int (i 81)) (C := R_Model) (T := F_Model) (N := 127) hx hb htt iw_Model hown hK hP 0 yo_12 rfl 81 (Nat.le_of_ble_eq_true rfl) (htt _ lk_Model_425) (fun _ h9 => h9) yg_81 d_Model_scan_432 ?_
    refine lv_iconst (v := 1) hx hb d_Model_scan_435 (by decide) ?_
    refine lv_iadd hx hb d_Model_scan_436 ?_
    refine lv_topi (fun x_3 ex_3 => ?_)
    replace hm := ob1_at ex_3 hm
    refine va_put (D := (dC, dI)) (ci := 12) (v := .int x_3) (ty := .int) (C := R_Model) (T := F_Model) (N := 127) hx hb htt iw_Model t_Model t_Model_ok n_Model hown hK hP hD hS 0 yo_12 rfl 81 (Nat.le_of_ble_eq_true rfl) (htt _ lk_Model_425) (fun _ h9 => h9) rfl (by decide +kernel) rfl rfl yl_81 d_Model_scan_437 (fun H locs hP hD hS => ?_)
    obtain ⟨i_4, ei_4⟩ : ∃ y9 : Nat → Int32, y9 = upd i 81 x_3 := ⟨_, rfl⟩
    replace hm := ob1_at ei_4 hm
    obtain ⟨hP, hD⟩ := yw_81 ei_4 hP hD
    refine lv_aload_n hx hb d_Model_scan_440 rfl (lv_at hl 1 rfl) ?_
    refine va_get (D := (dC, dI)) (ci := 12) (v := .ref ((v 77))) (C := R_Model) (T := F_Model) (N := 127) hx hb htt iw_Model hown hK hP 0 yo_12 rfl 77 (Nat.le_of_ble_eq_true rfl) (htt _ lk_Model_267) (fun _ h9 => h9) yg_77 d_Model_scan_441 ?_
    refine lv_iload hx hb d_Model_scan_444 (lv_at hl 0 rfl) ?_
    refine lv_iload hx hb d_Model_scan_446 (lv_at hl 5 rfl) ?_
    obtain ⟨h_5, hm⟩ := ck_some hm
    refine va_iast hx hb hK hP hD hS 50 0 ya_77 rfl h_5 d_Model_scan_448 (fun H locs hP hD hS => ?_)
    obtain ⟨a_6, ea_6⟩ : ∃ y9 : Nat → Nat → Int32, y9 = sv a 77 x_2.toNatClampNeg v4 := ⟨_, rfl⟩
    replace hm := ob1_at ea_6 hm
    obtain ⟨hP, hD⟩ := yv_77 ea_6 hP hD
    refine lv_aload_n hx hb d_Model_scan_449 rfl (lv_at hl 1 rfl) ?_
    refine va_get (D := (dC, dI)) (ci := 12) (v := .ref ((v 78))) (C := R_Model) (T := F_Model) (N := 127) hx hb htt iw_Model hown hK hP 0 yo_12 rfl 78 (Nat.le_of_ble_eq_true rfl) (htt _ lk_Model_270) (fun _ h9 => h9) yg_78 d_Model_scan_450 ?_
    refine lv_iload hx hb d_Model_scan_453 (lv_at hl 0 rfl) ?_
    refine lv_iload hx hb d_Model_scan_455 (lv_at hl 7 rfl) ?_
    refine lv_iload hx hb d_Model_scan_457 (lv_at hl 5 rfl) ?_
    refine lv_isub hx hb d_Model_scan_459 ?_
    obtain ⟨h_7, hm⟩ := ck_some hm
    refine va_iast hx hb hK hP hD hS 51 0 ya_78 rfl h_7 d_Model_scan_460 (fun H locs hP hD hS => ?_)
    obtain ⟨a_8, ea_8⟩ : ∃ y9 : Nat → Nat → Int32, y9 = sv a_6 78 x_2.toNatClampNeg (v6 - v4) := ⟨_, rfl⟩
    replace hm := ob1_at ea_8 hm
    obtain ⟨hP, hD⟩ := yv_78 ea_8 hP hD
    refine lv_aload_n hx hb d_Model_scan_461 rfl (lv_at hl 1 rfl) ?_
    refine va_get (D := (dC, dI)) (ci := 12) (v := .ref ((v 79))) (C := R_Model) (T := F_Model) (N := 127) hx hb htt iw_Model hown hK hP 0 yo_12 rfl 79 (Nat.le_of_ble_eq_true rfl) (htt _ lk_Model_273) (fun _ h9 => h9) yg_79 d_Model_scan_462 ?_
    refine lv_iload hx hb d_Model_scan_465 (lv_at hl 0 rfl) ?_
    refine lv_iload hx hb d_Model_scan_467 (lv_at hl 0 rfl) ?_
    obtain ⟨h_9, hm⟩ := ck_some hm
    refine va_iast hx hb hK hP hD hS 52 0 ya_79 rfl h_9 d_Model_scan_469 (fun H locs hP hD hS => ?_)
    obtain ⟨a_10, ea_10⟩ : ∃ y9 : Nat → Nat → Int32, y9 = sv a_8 79 x_2.toNatClampNeg x_2 := ⟨_, rfl⟩
    replace hm := ob1_at ea_10 hm
    obtain ⟨hP, hD⟩ := yv_79 ea_10 hP hD
    refine lv_iload hx hb d_Model_scan_470 (lv_at hl 6 rfl) ?_
    refine lv_bipush (v := 91) hx hb d_Model_scan_472 (by decide) ?_
    refine lv_icmp_ne (tgt := 506) hx hb d_Model_scan_474 (by decide) (fun c_11 => ?_) (fun c_11 => ?_)
    · replace hm := if_f c_11 hm
      exact lb_Model_scan_506 l dC dI cI cJ cB adK adV adA h v n hx hb hml hown hts hK hE hA hr hlocks rc_35 Hrc_35 _ _ _ _ _ _ _ _ _ _ _ _ _ hm _ _ _ hP hD hS (lv_sub hl [1, 2, 3, 4, 5, 6, 7, 8, 9, 0] rfl)
    · replace hm := if_t c_11 hm
      refine lv_iload hx hb d_Model_scan_477 (lv_at hl 8 rfl) ?_
      refine lv_if_eq (tgt := 506) hx hb d_Model_scan_479 (by decide) (fun c_12 => ?_) (fun c_12 => ?_)
      · replace hm := if_t c_12 hm
        exact lb_Model_scan_506 l dC dI cI cJ cB adK adV adA h v n hx hb hml hown hts hK hE hA hr hlocks rc_35 Hrc_35 _ _ _ _ _ _ _ _ _ _ _ _ _ hm _ _ _ hP hD hS (lv_sub hl [1, 2, 3, 4, 5, 6, 7, 8, 9, 0] rfl)
      · replace hm := if_f c_12 hm
        refine lv_aload_n hx hb d_Model_scan_482 rfl (lv_at hl 1 rfl) ?_
        refine va_get (D := (dC, dI)) (ci := 12) (v := .ref ((v 82))) (C := R_Model) (T := F_Model) (N := 127) hx hb htt iw_Model hown hK hP 0 yo_12 rfl 82 (Nat.le_of_ble_eq_true rfl) (htt _ lk_Model_279) (fun _ h9 => h9) yg_82 d_Model_scan_483 ?_
        refine lv_iload_n hx hb d_Model_scan_486 rfl (lv_at hl 4 rfl) ?_
        refine lv_iload hx hb d_Model_scan_487 (lv_at hl 0 rfl) ?_
        obtain ⟨h_13, hm⟩ := ck_some hm
        refine va_iast hx hb hK hP hD hS 54 0 ya_82 rfl h_13 d_Model_scan_489 (fun H locs hP hD hS => ?_)
        obtain ⟨a_14, ea_14⟩ : ∃ y9 : Nat → Nat → Int32, y9 = sv a_10 82 v3.toNatClampNeg x_2 := ⟨_, rfl⟩
        replace hm := ob1_at ea_14 hm
        obtain ⟨hP, hD⟩ := yv_82 ea_14 hP hD
        obtain ⟨x_15, ex_15⟩ : ∃ y9 : Int32, y9 = v3 + 1 := ⟨_, rfl⟩
        replace hm := ob1_at ex_15 hm
        refine lv_iinc (v := x_15) (lv' := [(3, .int x_15), (9, .int x_2), (0, .ref h), (1, .int v1), (2, .int v2), (4, .int v4), (5, .int v5), (6, .int v6), (7, .int v7), (8, .int v8)]) hx hb d_Model_scan_490 hl (k := 4) rfl (by rw [ex_15]; rfl) (by decide) rfl (fun ls hl => ?_)
        refine lv_aload_n hx hb d_Model_scan_493 rfl (lv_at hl 2 rfl) ?_
        refine va_get (D := (dC, dI)) (ci := 12) (v := .ref ((v 80))) (C := R_Model) (T := F_Model) (N := 127) hx hb htt iw_Model hown hK hP 0 yo_12 rfl 80 (Nat.le_of_ble_eq_true rfl) (htt _ lk_Model_276) (fun _ h9 => h9) yg_80 d_Model_scan_494 ?_
        refine lv_iload hx hb d_Model_scan_497 (lv_at hl 1 rfl) ?_
        refine lv_ldc2 (v := 3) hx hb hown (htt _ lk_Model_7) d_Model_scan_499 ?_
        obtain ⟨h_16, hm⟩ := ck_some hm
        refine va_last hx hb hK hP hD hS 53 1 ya_80 rfl h_16 d_Model_scan_502 (fun H locs hP hD hS => ?_)
        obtain ⟨b_17, eb_17⟩ : ∃ y9 : Nat → Nat → Int64, y9 = svl b 80 x_2.toNatClampNeg 3 := ⟨_, rfl⟩
        replace hm := ob1_at eb_17 hm
        obtain ⟨hP, hD⟩ := yv_80 eb_17 hP hD
        refine lv_goto (tgt := 629) hx hb d_Model_scan_503 (by decide) ?_
        exact lb_Model_scan_629 l dC dI cI cJ cB adK adV adA h v n hx hb hml hown hts hK hE hA hr hlocks rc_35 Hrc_35 _ _ _ _ _ _ _ _ _ hm _ _ _ hP hD hS (lv_sub hl [2, 3, 4, 0, 7, 1] rfl)
  · replace hm := if_f c_1 hm
    refine lv_goto (tgt := 647) hx hb d_Model_scan_421 (by decide) ?_
    exact lb_Model_scan_647 l dC dI cI cJ cB adK adV adA h v n hx hb hml hown hts hK hE hA hr hlocks _ _ _ _ _ _ _ hm _ _ _ hP hD hS (lv_sub hl [0, 1, 2, 3] rfl)
def m_Model_scan_b396 (n : Nat) (rc_35 : (Nat → Int32) → (Nat → Int64) → (Nat → Nat → Int32) → (Nat → Nat → Int64) → Int32 → Int32 → Int32 → Int32 → Option ((Nat → Int32) × (Nat → Int64) × (Nat → Nat → Int32) × (Nat → Nat → Int64) × Int32)) (i : Nat → Int32) (j : Nat → Int64) (a : Nat → Nat → Int32) (b : Nat → Nat → Int64) (v1 : Int32) (v2 : Int32) (v3 : Int32) (v4 : Int32) (v5 : Int32) (v6 : Int32) (v7 : Int32) (v8 : Int32) : Option ((Nat → Int32) × (Nat → Int64) × (Nat → Nat → Int32) × (Nat → Nat → Int64) × Int32) := if ((i 81)) = ((600 : Int32)) then om (m_Model_fail n i j a b (6 : Int32) v4) (fun i_3 j_4 a_5 b_6 r_7 => m_Model_scan_b414 n rc_35 i_3 j_4 a_5 b_6 v1 v2 v3 v4 v5 v6 v7 v8) else m_Model_scan_b414 n rc_35 i j a b v1 v2 v3 v4 v5 v6 v7 v8
set_option maxHeartbeats 4000000 in
set_option maxRecDepth 100000 in
theorem lb_Model_scan_396 (l : Launch) (dC : Nat → ClassId) (dI : Nat → Nat → Nat) (cI cJ cB : ClassId) (adK adV adA : Nat → Nat) (h : Nat) (v : Nat → Nat) (n : Nat) {p : Program} {e : Env} {s : State} {m : MethodId} {args : Array Value} {below : List Frame} {meth : Method} {c : Code} {A : Nat → Prop} (hx : p.tables.exec = Jvm.exec) (hb : c.code = b_Model_scan) (hml : c.maxLocals = 10) (hown : s.vm.findClass R_Model = some m.cls) (hts : ∀ w ∈ w_Model_scan, w.before args s = true) (hK : va_K (dC, dI) classes [(cI, .int), (cJ, .long), (cB, .byte)] s) (hE : tw_E adK adV adA A s s.heap) (hA : ∀ q : Nat, s.heap.size ≤ q → A q) (hr : meth.sig.returnType = (some .boolean)) (hlocks : meth.locks = false) {i2 : Nat → Int32} {j2 : Nat → Int64} {a2 : Nat → Nat → Int32} {b2 : Nat → Nat → Int64} {r2 : Int32} (rc_35 : (Nat → Int32) → (Nat → Int64) → (Nat → Nat → Int32) → (Nat → Nat → Int64) → Int32 → Int32 → Int32 → Int32 → Option ((Nat → Int32) × (Nat → Int64) × (Nat → Nat → Int32) × (Nat → Nat → Int64) × Int32)) (Hrc_35 : ∀ (i : Nat → Int32) (j : Nat → Int64) (a : Nat → Nat → Int32) (b : Nat → Nat → Int64) (v1 : Int32) (v2 : Int32) (v3 : Int32) (v4 : Int32), rc_35 i j a b v1 v2 v3 v4 = some (i2, j2, a2, b2, r2) → ∀ (H : Heap) (locs : List Loc) (ls : Array Slot), va_P (dC, dI) classes (MW cI cJ cB h v i j a b) H → va_D A (MW cI cJ cB h v i j a b) → va_S A s.heap H locs → lv_has ls 10 [(0, .ref h), (1, .int v1), (2, .int v2), (3, .int v3), (4, .int v4)] → W p l e ({ frames := 7, cells := 0, slots := 0, locals := 160 } : Room) s m args below meth c H locs 0 0 (MQ below (va_Qi (xR r2) (yB dC dI cI cJ cB h v i2 j2 a2 b2 A) A) args s 0 0 A) (F0 m 35 ls [])) (i : Nat → Int32) (j : Nat → Int64) (a : Nat → Nat → Int32) (b : Nat → Nat → Int64) (v1 : Int32) (v2 : Int32) (v3 : Int32) (v4 : Int32) (v5 : Int32) (v6 : Int32) (v7 : Int32) (v8 : Int32) (hm : m_Model_scan_b396 n rc_35 i j a b v1 v2 v3 v4 v5 v6 v7 v8 = some (i2, j2, a2, b2, r2)) : ∀ (H : Heap) (locs : List Loc) (ls : Array Slot), va_P (dC, dI) classes (MW cI cJ cB h v i j a b) H → va_D A (MW cI cJ cB h v i j a b) → va_S A s.heap H locs → lv_has ls 10 [(0, .ref h), (1, .int v1), (2, .int v2), (3, .int v3), (4, .int v4), (5, .int v5), (6, .int v6), (7, .int v7), (8, .int v8)] → W p l e ({ frames := 7, cells := 0, slots := 0, locals := 160 } : Room) s m args below meth c H locs 0 0 (MQ below (va_Qi (xR r2) (yB dC dI cI cJ cB h v i2 j2 a2 b2 A) A) args s 0 0 A) (F0 m 396 ls []) := by
  have htt : ∀ w ∈ tw_T, w.before _ s = true := fun w h => hts w (List.mem_cons_of_mem _ h)
  intro H locs ls hP hD hS hl
  rw [m_Model_scan_b396] at hm
  refine lv_aload_n hx hb d_Model_scan_396 rfl (lv_at hl 0 rfl) ?_
  refine va_get (D := (dC, dI)) (ci := 12) (v := .int (i 81)) (C := R_Model) (T := F_Model) (N := 127) hx hb htt iw_Model hown hK hP 0 yo_12 rfl 81 (Nat.le_of_ble_eq_true rfl) (htt _ lk_Model_425) (fun _ h9 => h9) yg_81 d_Model_scan_397 ?_
  refine lv_sipush (v := 600) hx hb d_Model_scan_400 (by decide) ?_
  refine lv_icmp_ne (tgt := 414) hx hb d_Model_scan_403 (by decide) (fun c_1 => ?_) (fun c_1 => ?_)
  · replace hm := if_f c_1 hm
    exact lb_Model_scan_414 l dC dI cI cJ cB adK adV adA h v n hx hb hml hown hts hK hE hA hr hlocks rc_35 Hrc_35 _ _ _ _ _ _ _ _ _ _ _ _ hm _ _ _ hP hD hS (lv_sub hl [0, 1, 2, 3, 4, 5, 6, 7, 8] rfl)
  · replace hm := if_t c_1 hm
    refine lv_aload_n hx hb d_Model_scan_406 rfl (lv_at hl 0 rfl) ?_
    refine lv_bipush (v := 6) hx hb d_Model_scan_407 (by decide) ?_
    refine lv_iload hx hb d_Model_scan_409 (lv_at hl 4 rfl) ?_
    obtain ⟨i_3, j_4, a_5, b_6, r_7, h_2, hm⟩ := om_some hm
    have hFc := x_free hD hS hA
    refine va_callv (va_runV (As := [.int 6, .int v4]) (rest := []) ⟨hx, hb, hml, hown, hts⟩ (x_Model_fail l dC dI cI cJ cB adK adV adA h v H.size n h_2) (cwV 2 hts (tw_GV tw_cons cw_Model_fail lk_Model_437 in_Model_fail sel_Model_fail ini_Model) rfl rfl rfl ⟨rfl, hd_Model_fail⟩ ⟨Nat.le_of_ble_eq_true rfl, Nat.le_of_ble_eq_true rfl⟩) (ypV hK hP hD hS hE hFc yo_12 rfl) rfl rfl hl.1 rfl (lv_room (Nat.le_of_ble_eq_true rfl)) d_Model_scan_411 ⟨Nat.le_of_ble_eq_true rfl, Nat.le_of_ble_eq_true rfl⟩) hS (fun q _ h => hFc q h) hFc (fun u9 t9 H locs ht hvm e9 hB hz1 hk1 hS => ?_)
    obtain ⟨hP, hD⟩ := y_aft hB ht hFc
    clear hFc hk1 hz1 hvm hB ht
    exact lb_Model_scan_414 l dC dI cI cJ cB adK adV adA h v n hx hb hml hown hts hK hE hA hr hlocks rc_35 Hrc_35 _ _ _ _ _ _ _ _ _ _ _ _ hm _ _ _ hP hD hS (lv_sub hl [0, 1, 2, 3, 4, 5, 6, 7, 8] rfl)
def m_Model_scan_b373 (n : Nat) (rc_35 : (Nat → Int32) → (Nat → Int64) → (Nat → Nat → Int32) → (Nat → Nat → Int64) → Int32 → Int32 → Int32 → Int32 → Option ((Nat → Int32) × (Nat → Int64) × (Nat → Nat → Int32) × (Nat → Nat → Int64) × Int32)) (i : Nat → Int32) (j : Nat → Int64) (a : Nat → Nat → Int32) (b : Nat → Nat → Int64) (v1 : Int32) (v2 : Int32) (v3 : Int32) (v4 : Int32) (v5 : Int32) (v6 : Int32) (v7 : Int32) (v8 : Int32) : Option ((Nat → Int32) × (Nat → Int64) × (Nat → Nat → Int32) × (Nat → Nat → Int64) × Int32) := if v5 = ((91 : Int32)) then if v3 = ((20 : Int32)) then om (m_Model_fail n i j a b (5 : Int32) v4) (fun i_4 j_5 a_6 b_7 r_8 => m_Model_scan_b414 n rc_35 i_4 j_5 a_6 b_7 v1 v2 v3 v4 v5 v6 v7 v8) else m_Model_scan_b396 n rc_35 i j a b v1 v2 v3 v4 v5 v6 v7 v8 else m_Model_scan_b396 n rc_35 i j a b v1 v2 v3 v4 v5 v6 v7 v8
set_option maxHeartbeats 4000000 in
set_option maxRecDepth 100000 in
theorem lb_Model_scan_373 (l : Launch) (dC : Nat → ClassId) (dI : Nat → Nat → Nat) (cI cJ cB : ClassId) (adK adV adA : Nat → Nat) (h : Nat) (v : Nat → Nat) (n : Nat) {p : Program} {e : Env} {s : State} {m : MethodId} {args : Array Value} {below : List Frame} {meth : Method} {c : Code} {A : Nat → Prop} (hx : p.tables.exec = Jvm.exec) (hb : c.code = b_Model_scan) (hml : c.maxLocals = 10) (hown : s.vm.findClass R_Model = some m.cls) (hts : ∀ w ∈ w_Model_scan, w.before args s = true) (hK : va_K (dC, dI) classes [(cI, .int), (cJ, .long), (cB, .byte)] s) (hE : tw_E adK adV adA A s s.heap) (hA : ∀ q : Nat, s.heap.size ≤ q → A q) (hr : meth.sig.returnType = (some .boolean)) (hlocks : meth.locks = false) {i2 : Nat → Int32} {j2 : Nat → Int64} {a2 : Nat → Nat → Int32} {b2 : Nat → Nat → Int64} {r2 : Int32} (rc_35 : (Nat → Int32) → (Nat → Int64) → (Nat → Nat → Int32) → (Nat → Nat → Int64) → Int32 → Int32 → Int32 → Int32 → Option ((Nat → Int32) × (Nat → Int64) × (Nat → Nat → Int32) × (Nat → Nat → Int64) × Int32)) (Hrc_35 : ∀ (i : Nat → Int32) (j : Nat → Int64) (a : Nat → Nat → Int32) (b : Nat → Nat → Int64) (v1 : Int32) (v2 : Int32) (v3 : Int32) (v4 : Int32), rc_35 i j a b v1 v2 v3 v4 = some (i2, j2, a2, b2, r2) → ∀ (H : Heap) (locs : List Loc) (ls : Array Slot), va_P (dC, dI) classes (MW cI cJ cB h v i j a b) H → va_D A (MW cI cJ cB h v i j a b) → va_S A s.heap H locs → lv_has ls 10 [(0, .ref h), (1, .int v1), (2, .int v2), (3, .int v3), (4, .int v4)] → W p l e ({ frames := 7, cells := 0, slots := 0, locals := 160 } : Room) s m args below meth c H locs 0 0 (MQ below (va_Qi (xR r2) (yB dC dI cI cJ cB h v i2 j2 a2 b2 A) A) args s 0 0 A) (F0 m 35 ls [])) (i : Nat → Int32) (j : Nat → Int64) (a : Nat → Nat → Int32) (b : Nat → Nat → Int64) (v1 : Int32) (v2 : Int32) (v3 : Int32) (v4 : Int32) (v5 : Int32) (v6 : Int32) (v7 : Int32) (v8 : Int32) (hm : m_Model_scan_b373 n rc_35 i j a b v1 v2 v3 v4 v5 v6 v7 v8 = some (i2, j2, a2, b2, r2)) : ∀ (H : Heap) (locs : List Loc) (ls : Array Slot), va_P (dC, dI) classes (MW cI cJ cB h v i j a b) H → va_D A (MW cI cJ cB h v i j a b) → va_S A s.heap H locs → lv_has ls 10 [(0, .ref h), (1, .int v1), (2, .int v2), (3, .int v3), (4, .int v4), (5, .int v5), (6, .int v6), (7, .int v7), (8, .int v8)] → W p l e ({ frames := 7, cells := 0, slots := 0, locals := 160 } : Room) s m args below meth c H locs 0 0 (MQ below (va_Qi (xR r2) (yB dC dI cI cJ cB h v i2 j2 a2 b2 A) A) args s 0 0 A) (F0 m 373 ls []) := by
  have htt : ∀ w ∈ tw_T, w.before _ s = true := fun w h => hts w (List.mem_cons_of_mem _ h)
  intro H locs ls hP hD hS hl
  rw [m_Model_scan_b373] at hm
  refine lv_iload hx hb d_Model_scan_373 (lv_at hl 5 rfl) ?_
  refine lv_bipush (v := 91) hx hb d_Model_scan_375 (by decide) ?_
  refine lv_icmp_ne (tgt := 396) hx hb d_Model_scan_377 (by decide) (fun c_1 => ?_) (fun c_1 => ?_)
  · replace hm := if_f c_1 hm
    exact lb_Model_scan_396 l dC dI cI cJ cB adK adV adA h v n hx hb hml hown hts hK hE hA hr hlocks rc_35 Hrc_35 _ _ _ _ _ _ _ _ _ _ _ _ hm _ _ _ hP hD hS (lv_sub hl [0, 1, 2, 3, 4, 5, 6, 7, 8] rfl)
  · replace hm := if_t c_1 hm
    refine lv_iload_n hx hb d_Model_scan_380 rfl (lv_at hl 3 rfl) ?_
    refine lv_bipush (v := 20) hx hb d_Model_scan_381 (by decide) ?_
    refine lv_icmp_ne (tgt := 396) hx hb d_Model_scan_383 (by decide) (fun c_2 => ?_) (fun c_2 => ?_)
    · replace hm := if_f c_2 hm
      exact lb_Model_scan_396 l dC dI cI cJ cB adK adV adA h v n hx hb hml hown hts hK hE hA hr hlocks rc_35 Hrc_35 _ _ _ _ _ _ _ _ _ _ _ _ hm _ _ _ hP hD hS (lv_sub hl [0, 1, 2, 3, 4, 5, 6, 7, 8] rfl)
    · replace hm := if_t c_2 hm
      refine lv_aload_n hx hb d_Model_scan_386 rfl (lv_at hl 0 rfl) ?_
      refine lv_iconst (v := 5) hx hb d_Model_scan_387 (by decide) ?_
      refine lv_iload hx hb d_Model_scan_388 (lv_at hl 4 rfl) ?_
      obtain ⟨i_4, j_5, a_6, b_7, r_8, h_3, hm⟩ := om_some hm
      have hFc := x_free hD hS hA
      refine va_callv (va_runV (As := [.int 5, .int v4]) (rest := []) ⟨hx, hb, hml, hown, hts⟩ (x_Model_fail l dC dI cI cJ cB adK adV adA h v H.size n h_3) (cwV 2 hts (tw_GV tw_cons cw_Model_fail lk_Model_437 in_Model_fail sel_Model_fail ini_Model) rfl rfl rfl ⟨rfl, hd_Model_fail⟩ ⟨Nat.le_of_ble_eq_true rfl, Nat.le_of_ble_eq_true rfl⟩) (ypV hK hP hD hS hE hFc yo_12 rfl) rfl rfl hl.1 rfl (lv_room (Nat.le_of_ble_eq_true rfl)) d_Model_scan_390 ⟨Nat.le_of_ble_eq_true rfl, Nat.le_of_ble_eq_true rfl⟩) hS (fun q _ h => hFc q h) hFc (fun u9 t9 H locs ht hvm e9 hB hz1 hk1 hS => ?_)
      obtain ⟨hP, hD⟩ := y_aft hB ht hFc
      clear hFc hk1 hz1 hvm hB ht
      refine lv_goto (tgt := 414) hx hb d_Model_scan_393 (by decide) ?_
      exact lb_Model_scan_414 l dC dI cI cJ cB adK adV adA h v n hx hb hml hown hts hK hE hA hr hlocks rc_35 Hrc_35 _ _ _ _ _ _ _ _ _ _ _ _ hm _ _ _ hP hD hS (lv_sub hl [0, 1, 2, 3, 4, 5, 6, 7, 8] rfl)
def m_Model_scan_b352 (n : Nat) (rc_35 : (Nat → Int32) → (Nat → Int64) → (Nat → Nat → Int32) → (Nat → Nat → Int64) → Int32 → Int32 → Int32 → Int32 → Option ((Nat → Int32) × (Nat → Int64) × (Nat → Nat → Int32) × (Nat → Nat → Int64) × Int32)) (i : Nat → Int32) (j : Nat → Int64) (a : Nat → Nat → Int32) (b : Nat → Nat → Int64) (v1 : Int32) (v2 : Int32) (v3 : Int32) (v4 : Int32) (v5 : Int32) (v6 : Int32) (v7 : Int32) (v8 : Int32) : Option ((Nat → Int32) × (Nat → Int64) × (Nat → Nat → Int32) × (Nat → Nat → Int64) × Int32) := if v5 = ((93 : Int32)) then if v3 = ((0 : Int32)) then om (m_Model_fail n i j a b (4 : Int32) v4) (fun i_4 j_5 a_6 b_7 r_8 => m_Model_scan_b414 n rc_35 i_4 j_5 a_6 b_7 v1 v2 v3 v4 v5 v6 v7 v8) else m_Model_scan_b373 n rc_35 i j a b v1 v2 v3 v4 v5 v6 v7 v8 else m_Model_scan_b373 n rc_35 i j a b v1 v2 v3 v4 v5 v6 v7 v8
set_option maxHeartbeats 4000000 in
set_option maxRecDepth 100000 in
theorem lb_Model_scan_352 (l : Launch) (dC : Nat → ClassId) (dI : Nat → Nat → Nat) (cI cJ cB : ClassId) (adK adV adA : Nat → Nat) (h : Nat) (v : Nat → Nat) (n : Nat) {p : Program} {e : Env} {s : State} {m : MethodId} {args : Array Value} {below : List Frame} {meth : Method} {c : Code} {A : Nat → Prop} (hx : p.tables.exec = Jvm.exec) (hb : c.code = b_Model_scan) (hml : c.maxLocals = 10) (hown : s.vm.findClass R_Model = some m.cls) (hts : ∀ w ∈ w_Model_scan, w.before args s = true) (hK : va_K (dC, dI) classes [(cI, .int), (cJ, .long), (cB, .byte)] s) (hE : tw_E adK adV adA A s s.heap) (hA : ∀ q : Nat, s.heap.size ≤ q → A q) (hr : meth.sig.returnType = (some .boolean)) (hlocks : meth.locks = false) {i2 : Nat → Int32} {j2 : Nat → Int64} {a2 : Nat → Nat → Int32} {b2 : Nat → Nat → Int64} {r2 : Int32} (rc_35 : (Nat → Int32) → (Nat → Int64) → (Nat → Nat → Int32) → (Nat → Nat → Int64) → Int32 → Int32 → Int32 → Int32 → Option ((Nat → Int32) × (Nat → Int64) × (Nat → Nat → Int32) × (Nat → Nat → Int64) × Int32)) (Hrc_35 : ∀ (i : Nat → Int32) (j : Nat → Int64) (a : Nat → Nat → Int32) (b : Nat → Nat → Int64) (v1 : Int32) (v2 : Int32) (v3 : Int32) (v4 : Int32), rc_35 i j a b v1 v2 v3 v4 = some (i2, j2, a2, b2, r2) → ∀ (H : Heap) (locs : List Loc) (ls : Array Slot), va_P (dC, dI) classes (MW cI cJ cB h v i j a b) H → va_D A (MW cI cJ cB h v i j a b) → va_S A s.heap H locs → lv_has ls 10 [(0, .ref h), (1, .int v1), (2, .int v2), (3, .int v3), (4, .int v4)] → W p l e ({ frames := 7, cells := 0, slots := 0, locals := 160 } : Room) s m args below meth c H locs 0 0 (MQ below (va_Qi (xR r2) (yB dC dI cI cJ cB h v i2 j2 a2 b2 A) A) args s 0 0 A) (F0 m 35 ls [])) (i : Nat → Int32) (j : Nat → Int64) (a : Nat → Nat → Int32) (b : Nat → Nat → Int64) (v1 : Int32) (v2 : Int32) (v3 : Int32) (v4 : Int32) (v5 : Int32) (v6 : Int32) (v7 : Int32) (v8 : Int32) (hm : m_Model_scan_b352 n rc_35 i j a b v1 v2 v3 v4 v5 v6 v7 v8 = some (i2, j2, a2, b2, r2)) : ∀ (H : Heap) (locs : List Loc) (ls : Array Slot), va_P (dC, dI) classes (MW cI cJ cB h v i j a b) H → va_D A (MW cI cJ cB h v i j a b) → va_S A s.heap H locs → lv_has ls 10 [(0, .ref h), (1, .int v1), (2, .int v2), (3, .int v3), (4, .int v4), (5, .int v5), (6, .int v6), (7, .int v7), (8, .int v8)] → W p l e ({ frames := 7, cells := 0, slots := 0, locals := 160 } : Room) s m args below meth c H locs 0 0 (MQ below (va_Qi (xR r2) (yB dC dI cI cJ cB h v i2 j2 a2 b2 A) A) args s 0 0 A) (F0 m 352 ls []) := by
  have htt : ∀ w ∈ tw_T, w.before _ s = true := fun w h => hts w (List.mem_cons_of_mem _ h)
  intro H locs ls hP hD hS hl
  rw [m_Model_scan_b352] at hm
  refine lv_iload hx hb d_Model_scan_352 (lv_at hl 5 rfl) ?_
  refine lv_bipush (v := 93) hx hb d_Model_scan_354 (by decide) ?_
  refine lv_icmp_ne (tgt := 373) hx hb d_Model_scan_356 (by decide) (fun c_1 => ?_) (fun c_1 => ?_)
  · replace hm := if_f c_1 hm
    exact lb_Model_scan_373 l dC dI cI cJ cB adK adV adA h v n hx hb hml hown hts hK hE hA hr hlocks rc_35 Hrc_35 _ _ _ _ _ _ _ _ _ _ _ _ hm _ _ _ hP hD hS (lv_sub hl [0, 1, 2, 3, 4, 5, 6, 7, 8] rfl)
  · replace hm := if_t c_1 hm
    refine lv_iload_n hx hb d_Model_scan_359 rfl (lv_at hl 3 rfl) ?_
    refine lv_if_ne (tgt := 373) hx hb d_Model_scan_360 (by decide) (fun c_2 => ?_) (fun c_2 => ?_)
    · replace hm := if_f c_2 hm
      exact lb_Model_scan_373 l dC dI cI cJ cB adK adV adA h v n hx hb hml hown hts hK hE hA hr hlocks rc_35 Hrc_35 _ _ _ _ _ _ _ _ _ _ _ _ hm _ _ _ hP hD hS (lv_sub hl [0, 1, 2, 3, 4, 5, 6, 7, 8] rfl)
    · replace hm := if_t c_2 hm
      refine lv_aload_n hx hb d_Model_scan_363 rfl (lv_at hl 0 rfl) ?_
      refine lv_iconst (v := 4) hx hb d_Model_scan_364 (by decide) ?_
      refine lv_iload hx hb d_Model_scan_365 (lv_at hl 4 rfl) ?_
      obtain ⟨i_4, j_5, a_6, b_7, r_8, h_3, hm⟩ := om_some hm
      have hFc := x_free hD hS hA
      refine va_callv (va_runV (As := [.int 4, .int v4]) (rest := []) ⟨hx, hb, hml, hown, hts⟩ (x_Model_fail l dC dI cI cJ cB adK adV adA h v H.size n h_3) (cwV 2 hts (tw_GV tw_cons cw_Model_fail lk_Model_437 in_Model_fail sel_Model_fail ini_Model) rfl rfl rfl ⟨rfl, hd_Model_fail⟩ ⟨Nat.le_of_ble_eq_true rfl, Nat.le_of_ble_eq_true rfl⟩) (ypV hK hP hD hS hE hFc yo_12 rfl) rfl rfl hl.1 rfl (lv_room (Nat.le_of_ble_eq_true rfl)) d_Model_scan_367 ⟨Nat.le_of_ble_eq_true rfl, Nat.le_of_ble_eq_true rfl⟩) hS (fun q _ h => hFc q h) hFc (fun u9 t9 H locs ht hvm e9 hB hz1 hk1 hS => ?_)
      obtain ⟨hP, hD⟩ := y_aft hB ht hFc
      clear hFc hk1 hz1 hvm hB ht
      refine lv_goto (tgt := 414) hx hb d_Model_scan_370 (by decide) ?_
      exact lb_Model_scan_414 l dC dI cI cJ cB adK adV adA h v n hx hb hml hown hts hK hE hA hr hlocks rc_35 Hrc_35 _ _ _ _ _ _ _ _ _ _ _ _ hm _ _ _ hP hD hS (lv_sub hl [0, 1, 2, 3, 4, 5, 6, 7, 8] rfl)
def m_Model_scan_b309 (n : Nat) (rc_35 : (Nat → Int32) → (Nat → Int64) → (Nat → Nat → Int32) → (Nat → Nat → Int64) → Int32 → Int32 → Int32 → Int32 → Option ((Nat → Int32) × (Nat → Int64) × (Nat → Nat → Int32) × (Nat → Nat → Int64) × Int32)) (i : Nat → Int32) (j : Nat → Int64) (a : Nat → Nat → Int32) (b : Nat → Nat → Int64) (v1 : Int32) (v2 : Int32) (v3 : Int32) (v4 : Int32) (v5 : Int32) (v6 : Int32) (v7 : Int32) (s0 : Int32) : Option ((Nat → Int32) × (Nat → Int64) × (Nat → Nat → Int32) × (Nat → Nat → Int64) × Int32) := if s0 = ((2 : Int32)) then om (m_Model_fail n i j a b (2 : Int32) v4) (fun i_11 j_12 a_13 b_14 r_15 => m_Model_scan_b414 n rc_35 i_11 j_12 a_13 b_14 v1 v2 v3 v4 v5 v6 v7 s0) else if s0 = ((0 : Int32)) then if ((v6 - v4)) ≤ ((30 : Int32)) then m_Model_scan_b352 n rc_35 i j a b v1 v2 v3 v4 v5 v6 v7 s0 else om (m_Model_fail n i j a b (3 : Int32) v4) (fun i_5 j_6 a_7 b_8 r_9 => m_Model_scan_b414 n rc_35 i_5 j_6 a_7 b_8 v1 v2 v3 v4 v5 v6 v7 s0) else m_Model_scan_b352 n rc_35 i j a b v1 v2 v3 v4 v5 v6 v7 s0
set_option maxHeartbeats 4000000 in
set_option maxRecDepth 100000 in
theorem lb_Model_scan_309 (l : Launch) (dC : Nat → ClassId) (dI : Nat → Nat → Nat) (cI cJ cB : ClassId) (adK adV adA : Nat → Nat) (h : Nat) (v : Nat → Nat) (n : Nat) {p : Program} {e : Env} {s : State} {m : MethodId} {args : Array Value} {below : List Frame} {meth : Method} {c : Code} {A : Nat → Prop} (hx : p.tables.exec = Jvm.exec) (hb : c.code = b_Model_scan) (hml : c.maxLocals = 10) (hown : s.vm.findClass R_Model = some m.cls) (hts : ∀ w ∈ w_Model_scan, w.before args s = true) (hK : va_K (dC, dI) classes [(cI, .int), (cJ, .long), (cB, .byte)] s) (hE : tw_E adK adV adA A s s.heap) (hA : ∀ q : Nat, s.heap.size ≤ q → A q) (hr : meth.sig.returnType = (some .boolean)) (hlocks : meth.locks = false) {i2 : Nat → Int32} {j2 : Nat → Int64} {a2 : Nat → Nat → Int32} {b2 : Nat → Nat → Int64} {r2 : Int32} (rc_35 : (Nat → Int32) → (Nat → Int64) → (Nat → Nat → Int32) → (Nat → Nat → Int64) → Int32 → Int32 → Int32 → Int32 → Option ((Nat → Int32) × (Nat → Int64) × (Nat → Nat → Int32) × (Nat → Nat → Int64) × Int32)) (Hrc_35 : ∀ (i : Nat → Int32) (j : Nat → Int64) (a : Nat → Nat → Int32) (b : Nat → Nat → Int64) (v1 : Int32) (v2 : Int32) (v3 : Int32) (v4 : Int32), rc_35 i j a b v1 v2 v3 v4 = some (i2, j2, a2, b2, r2) → ∀ (H : Heap) (locs : List Loc) (ls : Array Slot), va_P (dC, dI) classes (MW cI cJ cB h v i j a b) H → va_D A (MW cI cJ cB h v i j a b) → va_S A s.heap H locs → lv_has ls 10 [(0, .ref h), (1, .int v1), (2, .int v2), (3, .int v3), (4, .int v4)] → W p l e ({ frames := 7, cells := 0, slots := 0, locals := 160 } : Room) s m args below meth c H locs 0 0 (MQ below (va_Qi (xR r2) (yB dC dI cI cJ cB h v i2 j2 a2 b2 A) A) args s 0 0 A) (F0 m 35 ls [])) (i : Nat → Int32) (j : Nat → Int64) (a : Nat → Nat → Int32) (b : Nat → Nat → Int64) (v1 : Int32) (v2 : Int32) (v3 : Int32) (v4 : Int32) (v5 : Int32) (v6 : Int32) (v7 : Int32) (s0 : Int32) (hm : m_Model_scan_b309 n rc_35 i j a b v1 v2 v3 v4 v5 v6 v7 s0 = some (i2, j2, a2, b2, r2)) : ∀ (H : Heap) (locs : List Loc) (ls : Array Slot), va_P (dC, dI) classes (MW cI cJ cB h v i j a b) H → va_D A (MW cI cJ cB h v i j a b) → va_S A s.heap H locs → lv_has ls 10 [(0, .ref h), (1, .int v1), (2, .int v2), (3, .int v3), (4, .int v4), (5, .int v5), (6, .int v6), (7, .int v7)] → W p l e ({ frames := 7, cells := 0, slots := 0, locals := 160 } : Room) s m args below meth c H locs 0 0 (MQ below (va_Qi (xR r2) (yB dC dI cI cJ cB h v i2 j2 a2 b2 A) A) args s 0 0 A) (F0 m 309 ls [.int s0]) := by
  have htt : ∀ w ∈ tw_T, w.before _ s = true := fun w h => hts w (List.mem_cons_of_mem _ h)
  intro H locs ls hP hD hS hl
  rw [m_Model_scan_b309] at hm
  refine lv_istore (lv' := [(8, .int s0), (0, .ref h), (1, .int v1), (2, .int v2), (3, .int v3), (4, .int v4), (5, .int v5), (6, .int v6), (7, .int v7)]) hx hb d_Model_scan_309 hl (by decide) rfl (fun ls hl => ?_)
  refine lv_iload hx hb d_Model_scan_311 (lv_at hl 0 rfl) ?_
  refine lv_iconst (v := 2) hx hb d_Model_scan_313 (by decide) ?_
  refine lv_icmp_ne (tgt := 327) hx hb d_Model_scan_314 (by decide) (fun c_1 => ?_) (fun c_1 => ?_)
  · replace hm := if_f c_1 hm
    refine lv_iload hx hb d_Model_scan_327 (lv_at hl 0 rfl) ?_
    refine lv_if_ne (tgt := 352) hx hb d_Model_scan_329 (by decide) (fun c_2 => ?_) (fun c_2 => ?_)
    · replace hm := if_f c_2 hm
      exact lb_Model_scan_352 l dC dI cI cJ cB adK adV adA h v n hx hb hml hown hts hK hE hA hr hlocks rc_35 Hrc_35 _ _ _ _ _ _ _ _ _ _ _ _ hm _ _ _ hP hD hS (lv_sub hl [1, 2, 3, 4, 5, 6, 7, 8, 0] rfl)
    · replace hm := if_t c_2 hm
      refine lv_iload hx hb d_Model_scan_332 (lv_at hl 7 rfl) ?_
      refine lv_iload hx hb d_Model_scan_334 (lv_at hl 5 rfl) ?_
      refine lv_isub hx hb d_Model_scan_336 ?_
      refine lv_bipush (v := 30) hx hb d_Model_scan_337 (by decide) ?_
      refine lv_icmp_le (tgt := 352) hx hb d_Model_scan_339 (by decide) (fun c_3 => ?_) (fun c_3 => ?_)
      · replace hm := if_t c_3 hm
        exact lb_Model_scan_352 l dC dI cI cJ cB adK adV adA h v n hx hb hml hown hts hK hE hA hr hlocks rc_35 Hrc_35 _ _ _ _ _ _ _ _ _ _ _ _ hm _ _ _ hP hD hS (lv_sub hl [1, 2, 3, 4, 5, 6, 7, 8, 0] rfl)
      · replace hm := if_f c_3 hm
        refine lv_aload_n hx hb d_Model_scan_342 rfl (lv_at hl 1 rfl) ?_
        refine lv_iconst (v := 3) hx hb d_Model_scan_343 (by decide) ?_
        refine lv_iload hx hb d_Model_scan_344 (lv_at hl 5 rfl) ?_
        obtain ⟨i_5, j_6, a_7, b_8, r_9, h_4, hm⟩ := om_some hm
        have hFc := x_free hD hS hA
        refine va_callv (va_runV (As := [.int 3, .int v4]) (rest := []) ⟨hx, hb, hml, hown, hts⟩ (x_Model_fail l dC dI cI cJ cB adK adV adA h v H.size n h_4) (cwV 2 hts (tw_GV tw_cons cw_Model_fail lk_Model_437 in_Model_fail sel_Model_fail ini_Model) rfl rfl rfl ⟨rfl, hd_Model_fail⟩ ⟨Nat.le_of_ble_eq_true rfl, Nat.le_of_ble_eq_true rfl⟩) (ypV hK hP hD hS hE hFc yo_12 rfl) rfl rfl hl.1 rfl (lv_room (Nat.le_of_ble_eq_true rfl)) d_Model_scan_346 ⟨Nat.le_of_ble_eq_true rfl, Nat.le_of_ble_eq_true rfl⟩) hS (fun q _ h => hFc q h) hFc (fun u9 t9 H locs ht hvm e9 hB hz1 hk1 hS => ?_)
        obtain ⟨hP, hD⟩ := y_aft hB ht hFc
        clear hFc hk1 hz1 hvm hB ht
        refine lv_goto (tgt := 414) hx hb d_Model_scan_349 (by decide) ?_
        exact lb_Model_scan_414 l dC dI cI cJ cB adK adV adA h v n hx hb hml hown hts hK hE hA hr hlocks rc_35 Hrc_35 _ _ _ _ _ _ _ _ _ _ _ _ hm _ _ _ hP hD hS (lv_sub hl [1, 2, 3, 4, 5, 6, 7, 8, 0] rfl)
  · replace hm := if_t c_1 hm
    refine lv_aload_n hx hb d_Model_scan_317 rfl (lv_at hl 1 rfl) ?_
    refine lv_iconst (v := 2) hx hb d_Model_scan_318 (by decide) ?_
    refine lv_iload hx hb d_Model_scan_319 (lv_at hl 5 rfl) ?_
    obtain ⟨i_11, j_12, a_13, b_14, r_15, h_10, hm⟩ := om_some hm
    have hFc := x_free hD hS hA
    refine va_callv (va_runV (As := [.int 2, .int v4]) (rest := []) ⟨hx, hb, hml, hown, hts⟩ (x_Model_fail l dC dI cI cJ cB adK adV adA h v H.size n h_10) (cwV 2 hts (tw_GV tw_cons cw_Model_fail lk_Model_437 in_Model_fail sel_Model_fail ini_Model) rfl rfl rfl ⟨rfl, hd_Model_fail⟩ ⟨Nat.le_of_ble_eq_true rfl, Nat.le_of_ble_eq_true rfl⟩) (ypV hK hP hD hS hE hFc yo_12 rfl) rfl rfl hl.1 rfl (lv_room (Nat.le_of_ble_eq_true rfl)) d_Model_scan_321 ⟨Nat.le_of_ble_eq_true rfl, Nat.le_of_ble_eq_true rfl⟩) hS (fun q _ h => hFc q h) hFc (fun u9 t9 H locs ht hvm e9 hB hz1 hk1 hS => ?_)
    obtain ⟨hP, hD⟩ := y_aft hB ht hFc
    clear hFc hk1 hz1 hvm hB ht
    refine lv_goto (tgt := 414) hx hb d_Model_scan_324 (by decide) ?_
    exact lb_Model_scan_414 l dC dI cI cJ cB adK adV adA h v n hx hb hml hown hts hK hE hA hr hlocks rc_35 Hrc_35 _ _ _ _ _ _ _ _ _ _ _ _ hm _ _ _ hP hD hS (lv_sub hl [1, 2, 3, 4, 5, 6, 7, 8, 0] rfl)
def m_Model_scan_b285 (n : Nat) (rc_35 : (Nat → Int32) → (Nat → Int64) → (Nat → Nat → Int32) → (Nat → Nat → Int64) → Int32 → Int32 → Int32 → Int32 → Option ((Nat → Int32) × (Nat → Int64) × (Nat → Nat → Int32) × (Nat → Nat → Int64) × Int32)) (i : Nat → Int32) (j : Nat → Int64) (a : Nat → Nat → Int32) (b : Nat → Nat → Int64) (v1 : Int32) (v2 : Int32) (v3 : Int32) (v4 : Int32) (v5 : Int32) (v6 : Int32) (v7 : Int32) : Option ((Nat → Int32) × (Nat → Int64) × (Nat → Nat → Int32) × (Nat → Nat → Int64) × Int32) := if v7 = ((0 : Int32)) then om (m_Model_asNumber_v73 n i j a b v4 (v6 - v4)) (fun i_3 j_4 a_5 b_6 r_7 => m_Model_scan_b309 n rc_35 i_3 j_4 a_5 b_6 v1 v2 v3 v4 v5 v6 v7 r_7) else m_Model_scan_b309 n rc_35 i j a b v1 v2 v3 v4 v5 v6 v7 (0 : Int32)
set_option maxHeartbeats 4000000 in
set_option maxRecDepth 100000 in
theorem lb_Model_scan_285 (l : Launch) (dC : Nat → ClassId) (dI : Nat → Nat → Nat) (cI cJ cB : ClassId) (adK adV adA : Nat → Nat) (h : Nat) (v : Nat → Nat) (n : Nat) {p : Program} {e : Env} {s : State} {m : MethodId} {args : Array Value} {below : List Frame} {meth : Method} {c : Code} {A : Nat → Prop} (hx : p.tables.exec = Jvm.exec) (hb : c.code = b_Model_scan) (hml : c.maxLocals = 10) (hown : s.vm.findClass R_Model = some m.cls) (hts : ∀ w ∈ w_Model_scan, w.before args s = true) (hK : va_K (dC, dI) classes [(cI, .int), (cJ, .long), (cB, .byte)] s) (hE : tw_E adK adV adA A s s.heap) (hA : ∀ q : Nat, s.heap.size ≤ q → A q) (hr : meth.sig.returnType = (some .boolean)) (hlocks : meth.locks = false) {i2 : Nat → Int32} {j2 : Nat → Int64} {a2 : Nat → Nat → Int32} {b2 : Nat → Nat → Int64} {r2 : Int32} (rc_35 : (Nat → Int32) → (Nat → Int64) → (Nat → Nat → Int32) → (Nat → Nat → Int64) → Int32 → Int32 → Int32 → Int32 → Option ((Nat → Int32) × (Nat → Int64) × (Nat → Nat → Int32) × (Nat → Nat → Int64) × Int32)) (Hrc_35 : ∀ (i : Nat → Int32) (j : Nat → Int64) (a : Nat → Nat → Int32) (b : Nat → Nat → Int64) (v1 : Int32) (v2 : Int32) (v3 : Int32) (v4 : Int32), rc_35 i j a b v1 v2 v3 v4 = some (i2, j2, a2, b2, r2) → ∀ (H : Heap) (locs : List Loc) (ls : Array Slot), va_P (dC, dI) classes (MW cI cJ cB h v i j a b) H → va_D A (MW cI cJ cB h v i j a b) → va_S A s.heap H locs → lv_has ls 10 [(0, .ref h), (1, .int v1), (2, .int v2), (3, .int v3), (4, .int v4)] → W p l e ({ frames := 7, cells := 0, slots := 0, locals := 160 } : Room) s m args below meth c H locs 0 0 (MQ below (va_Qi (xR r2) (yB dC dI cI cJ cB h v i2 j2 a2 b2 A) A) args s 0 0 A) (F0 m 35 ls [])) (i : Nat → Int32) (j : Nat → Int64) (a : Nat → Nat → Int32) (b : Nat → Nat → Int64) (v1 : Int32) (v2 : Int32) (v3 : Int32) (v4 : Int32) (v5 : Int32) (v6 : Int32) (v7 : Int32) (hm : m_Model_scan_b285 n rc_35 i j a b v1 v2 v3 v4 v5 v6 v7 = some (i2, j2, a2, b2, r2)) : ∀ (H : Heap) (locs : List Loc) (ls : Array Slot), va_P (dC, dI) classes (MW cI cJ cB h v i j a b) H → va_D A (MW cI cJ cB h v i j a b) → va_S A s.heap H locs → lv_has ls 10 [(0, .ref h), (1, .int v1), (2, .int v2), (3, .int v3), (4, .int v4), (5, .int v5), (6, .int v6), (7, .int v7)] → W p l e ({ frames := 7, cells := 0, slots := 0, locals := 160 } : Room) s m args below meth c H locs 0 0 (MQ below (va_Qi (xR r2) (yB dC dI cI cJ cB h v i2 j2 a2 b2 A) A) args s 0 0 A) (F0 m 285 ls []) := by
  have htt : ∀ w ∈ tw_T, w.before _ s = true := fun w h => hts w (List.mem_cons_of_mem _ h)
  intro H locs ls hP hD hS hl
  rw [m_Model_scan_b285] at hm
  refine lv_iload hx hb d_Model_scan_285 (lv_at hl 7 rfl) ?_
  refine lv_if_eq (tgt := 294) hx hb d_Model_scan_287 (by decide) (fun c_1 => ?_) (fun c_1 => ?_)
  · replace hm := if_t c_1 hm
    refine lv_aload_n hx hb d_Model_scan_294 rfl (lv_at hl 0 rfl) ?_
    refine lv_aload_n hx hb d_Model_scan_295 rfl (lv_at hl 0 rfl) ?_
    refine va_get (D := (dC, dI)) (ci := 12) (v := .ref ((v 73))) (C := R_Model) (T := F_Model) (N := 127) hx hb htt iw_Model hown hK hP 0 yo_12 rfl 73 (Nat.le_of_ble_eq_true rfl) (htt _ lk_Model_261) (fun _ h9 => h9) yg_73 d_Model_scan_296 ?_
    refine lv_iload hx hb d_Model_scan_299 (lv_at hl 4 rfl) ?_
    refine lv_iload hx hb d_Model_scan_301 (lv_at hl 6 rfl) ?_
    refine lv_iload hx hb d_Model_scan_303 (lv_at hl 4 rfl) ?_
    refine lv_isub hx hb d_Model_scan_305 ?_
    obtain ⟨i_3, j_4, a_5, b_6, r_7, h_2, hm⟩ := om_some hm
    have hFc := x_free hD hS hA
    refine va_calli (va_runV (As := [.ref ((v 73)), .int v4, .int (v6 - v4)]) (rest := []) ⟨hx, hb, hml, hown, hts⟩ (x_Model_asNumber_v73 l dC dI cI cJ cB adK adV adA h v H.size n h_2) (cwV 3 hts (tw_GV tw_cons cw_Model_asNumber lk_Model_447 in_Model_asNumber sel_Model_asNumber ini_Model) rfl rfl rfl ⟨rfl, hd_Model_asNumber⟩ ⟨Nat.le_of_ble_eq_true rfl, Nat.le_of_ble_eq_true rfl⟩) (ypV hK hP hD hS hE hFc yo_12 rfl) rfl rfl hl.1 rfl (lv_room (Nat.le_of_ble_eq_true rfl)) d_Model_scan_306 ⟨Nat.le_of_ble_eq_true rfl, Nat.le_of_ble_eq_true rfl⟩) hS (fun q _ h => hFc q h) hFc (fun r9 u9 t9 H locs ht hvm e9 hB hz1 hk1 hS => ?_)
    have e9 : r_7 = r9 := e9
    subst e9
    obtain ⟨hP, hD⟩ := y_aft hB ht hFc
    clear hFc hk1 hz1 hvm hB ht
    exact lb_Model_scan_309 l dC dI cI cJ cB adK adV adA h v n hx hb hml hown hts hK hE hA hr hlocks rc_35 Hrc_35 _ _ _ _ _ _ _ _ _ _ _ _ hm _ _ _ hP hD hS (lv_sub hl [0, 1, 2, 3, 4, 5, 6, 7] rfl)
  · replace hm := if_f c_1 hm
    refine lv_iconst (v := 0) hx hb d_Model_scan_290 (by decide) ?_
    refine lv_goto (tgt := 309) hx hb d_Model_scan_291 (by decide) ?_
    exact lb_Model_scan_309 l dC dI cI cJ cB adK adV adA h v n hx hb hml hown hts hK hE hA hr hlocks rc_35 Hrc_35 _ _ _ _ _ _ _ _ _ _ _ _ hm _ _ _ hP hD hS (lv_sub hl [0, 1, 2, 3, 4, 5, 6, 7] rfl)
def m_Model_scan_b205 (n : Nat) (rc_35 : (Nat → Int32) → (Nat → Int64) → (Nat → Nat → Int32) → (Nat → Nat → Int64) → Int32 → Int32 → Int32 → Int32 → Option ((Nat → Int32) × (Nat → Int64) × (Nat → Nat → Int32) × (Nat → Nat → Int64) × Int32)) : Nat → (Nat → Int32) → (Nat → Int64) → (Nat → Nat → Int32) → (Nat → Nat → Int64) → Int32 → Int32 → Int32 → Int32 → Int32 → Int32 → Int32 → Option ((Nat → Int32) × (Nat → Int64) × (Nat → Nat → Int32) × (Nat → Nat → Int64) × Int32)
  | 0, _, _, _, _, _, _, _, _, _, _, _ => none
  | f + 1, i, j, a, b, v1, v2, v3, v4, v5, v6, v7 => if v7 = ((0 : Int32)) then if v2 ≤ v6 then m_Model_scan_b285 n rc_35 i j a b v1 v2 v3 v4 v5 v6 v7 else ck v6 4000 (ob0 (m_Model_isGood n (a 73 v6.toNatClampNeg)) (fun r_5 => if r_5 = ((0 : Int32)) then m_Model_scan_b285 n rc_35 i j a b v1 v2 v3 v4 v5 v6 v7 else ck v6 4000 (ob0 (m_Model_isBlank n (a 73 v6.toNatClampNeg)) (fun r_9 => if r_9 = ((0 : Int32)) then ck v6 4000 (if ((a 73 v6.toNatClampNeg)) = ((91 : Int32)) then m_Model_scan_b285 n rc_35 i j a b v1 v2 v3 v4 v5 v6 v7 else ck v6 4000 (if ((a 73 v6.toNatClampNeg)) = ((93 : Int32)) then m_Model_scan_b285 n rc_35 i j a b v1 v2 v3 v4 v5 v6 v7 else ck v6 4000 (ob0 (m_Model_isSingle n (a 73 v6.toNatClampNeg)) (fun r_17 => if r_17 = ((0 : Int32)) then ob1 (v6 + 1 : Int32) (fun x_19 => m_Model_scan_b205 n rc_35 f i j a b v1 v2 v3 v4 v5 x_19 v7) else m_Model_scan_b285 n rc_35 i j a b v1 v2 v3 v4 v5 v6 v7)))) else m_Model_scan_b285 n rc_35 i j a b v1 v2 v3 v4 v5 v6 v7)))) else m_Model_scan_b285 n rc_35 i j a b v1 v2 v3 v4 v5 v6 v7
set_option maxHeartbeats 4000000 in
set_option maxRecDepth 100000 in
theorem lb_Model_scan_205 (l : Launch) (dC : Nat → ClassId) (dI : Nat → Nat → Nat) (cI cJ cB : ClassId) (adK adV adA : Nat → Nat) (h : Nat) (v : Nat → Nat) (n : Nat) {p : Program} {e : Env} {s : State} {m : MethodId} {args : Array Value} {below : List Frame} {meth : Method} {c : Code} {A : Nat → Prop} (hx : p.tables.exec = Jvm.exec) (hb : c.code = b_Model_scan) (hml : c.maxLocals = 10) (hown : s.vm.findClass R_Model = some m.cls) (hts : ∀ w ∈ w_Model_scan, w.before args s = true) (hK : va_K (dC, dI) classes [(cI, .int), (cJ, .long), (cB, .byte)] s) (hE : tw_E adK adV adA A s s.heap) (hA : ∀ q : Nat, s.heap.size ≤ q → A q) (hr : meth.sig.returnType = (some .boolean)) (hlocks : meth.locks = false) {i2 : Nat → Int32} {j2 : Nat → Int64} {a2 : Nat → Nat → Int32} {b2 : Nat → Nat → Int64} {r2 : Int32} (rc_35 : (Nat → Int32) → (Nat → Int64) → (Nat → Nat → Int32) → (Nat → Nat → Int64) → Int32 → Int32 → Int32 → Int32 → Option ((Nat → Int32) × (Nat → Int64) × (Nat → Nat → Int32) × (Nat → Nat → Int64) × Int32)) (Hrc_35 : ∀ (i : Nat → Int32) (j : Nat → Int64) (a : Nat → Nat → Int32) (b : Nat → Nat → Int64) (v1 : Int32) (v2 : Int32) (v3 : Int32) (v4 : Int32), rc_35 i j a b v1 v2 v3 v4 = some (i2, j2, a2, b2, r2) → ∀ (H : Heap) (locs : List Loc) (ls : Array Slot), va_P (dC, dI) classes (MW cI cJ cB h v i j a b) H → va_D A (MW cI cJ cB h v i j a b) → va_S A s.heap H locs → lv_has ls 10 [(0, .ref h), (1, .int v1), (2, .int v2), (3, .int v3), (4, .int v4)] → W p l e ({ frames := 7, cells := 0, slots := 0, locals := 160 } : Room) s m args below meth c H locs 0 0 (MQ below (va_Qi (xR r2) (yB dC dI cI cJ cB h v i2 j2 a2 b2 A) A) args s 0 0 A) (F0 m 35 ls [])) : ∀ (f : Nat) (i : Nat → Int32) (j : Nat → Int64) (a : Nat → Nat → Int32) (b : Nat → Nat → Int64) (v1 : Int32) (v2 : Int32) (v3 : Int32) (v4 : Int32) (v5 : Int32) (v6 : Int32) (v7 : Int32), m_Model_scan_b205 n rc_35 f i j a b v1 v2 v3 v4 v5 v6 v7 = some (i2, j2, a2, b2, r2) → ∀ (H : Heap) (locs : List Loc) (ls : Array Slot), va_P (dC, dI) classes (MW cI cJ cB h v i j a b) H → va_D A (MW cI cJ cB h v i j a b) → va_S A s.heap H locs → lv_has ls 10 [(0, .ref h), (1, .int v1), (2, .int v2), (3, .int v3), (4, .int v4), (5, .int v5), (6, .int v6), (7, .int v7)] → W p l e ({ frames := 7, cells := 0, slots := 0, locals := 160 } : Room) s m args below meth c H locs 0 0 (MQ below (va_Qi (xR r2) (yB dC dI cI cJ cB h v i2 j2 a2 b2 A) A) args s 0 0 A) (F0 m 205 ls []) := by
  have htt : ∀ w ∈ tw_T, w.before _ s = true := fun w h => hts w (List.mem_cons_of_mem _ h)
  intro f
  induction f with
  | zero =>
    intro i j a b v1 v2 v3 v4 v5 v6 v7 hm
    rw [m_Model_scan_b205] at hm
    cases hm
  | succ f ih =>
    intro i j a b v1 v2 v3 v4 v5 v6 v7 hm H locs ls hP hD hS hl
    rw [m_Model_scan_b205] at hm
    refine lv_iload hx hb d_Model_scan_205 (lv_at hl 7 rfl) ?_
    refine lv_if_ne (tgt := 285) hx hb d_Model_scan_207 (by decide) (fun c_1 => ?_) (fun c_1 => ?_)
    · replace hm := if_f c_1 hm
      exact lb_Model_scan_285 l dC dI cI cJ cB adK adV adA h v n hx hb hml hown hts hK hE hA hr hlocks rc_35 Hrc_35 _ _ _ _ _ _ _ _ _ _ _ hm _ _ _ hP hD hS (lv_sub hl [0, 1, 2, 3, 4, 5, 6, 7] rfl)
    · replace hm := if_t c_1 hm
      refine lv_iload hx hb d_Model_scan_210 (lv_at hl 6 rfl) ?_
      refine lv_iload_n hx hb d_Model_scan_212 rfl (lv_at hl 2 rfl) ?_
      refine lv_icmp_ge (tgt := 285) hx hb d_Model_scan_213 (by decide) (fun c_2 => ?_) (fun c_2 => ?_)
      · replace hm := if_t c_2 hm
        exact lb_Model_scan_285 l dC dI cI cJ cB adK adV adA h v n hx hb hml hown hts hK hE hA hr hlocks rc_35 Hrc_35 _ _ _ _ _ _ _ _ _ _ _ hm _ _ _ hP hD hS (lv_sub hl [0, 1, 2, 3, 4, 5, 6, 7] rfl)
      · replace hm := if_f c_2 hm
        refine lv_aload_n hx hb d_Model_scan_216 rfl (lv_at hl 0 rfl) ?_
        refine va_get (D := (dC, dI)) (ci := 12) (v := .ref ((v 73))) (C := R_Model) (T := F_Model) (N := 127) hx hb htt iw_Model hown hK hP 0 yo_12 rfl 73 (Nat.le_of_ble_eq_true rfl) (htt _ lk_Model_261) (fun _ h9 => h9) yg_73 d_Model_scan_217 ?_
        refine lv_iload hx hb d_Model_scan_220 (lv_at hl 6 rfl) ?_
        obtain ⟨h_3, hm⟩ := ck_some hm
        refine va_bald hx hb hK hP 49 2 ya_73 rfl h_3 d_Model_scan_222 ?_
        obtain ⟨r_5, h_4, hm⟩ := ob0_some hm
        have hFc := x_free0 hS hA
        refine va_calli (va_runS (As := [.int (a 73 v6.toNatClampNeg)]) (rest := []) ⟨hx, hb, hml, hown, hts⟩ (x_Model_isGood l H.size n h_4) (va_cwS 1 hts (tw_GS tw_cons cw_Model_isGood lk_Model_434 st_Model_isGood ini_Model) rfl rfl rfl hd_Model_isGood ⟨Nat.le_of_ble_eq_true rfl, Nat.le_of_ble_eq_true rfl⟩) xpS0 rfl rfl hl.1 rfl (lv_room (Nat.le_of_ble_eq_true rfl)) d_Model_scan_223 ⟨Nat.le_of_ble_eq_true rfl, Nat.le_of_ble_eq_true rfl⟩) hS (fun q _ h => hFc q h) hFc (fun r9 u9 t9 H locs ht hvm e9 hB hz1 hk1 hS => ?_)
        have e9 : r_5 = r9 := e9
        subst e9
        replace hP := x_keep hP hk1
        clear hFc hk1 hz1 hvm hB ht
        refine lv_if_eq (tgt := 285) hx hb d_Model_scan_226 (by decide) (fun c_6 => ?_) (fun c_6 => ?_)
        · replace hm := if_t c_6 hm
          exact lb_Model_scan_285 l dC dI cI cJ cB adK adV adA h v n hx hb hml hown hts hK hE hA hr hlocks rc_35 Hrc_35 _ _ _ _ _ _ _ _ _ _ _ hm _ _ _ hP hD hS (lv_sub hl [0, 1, 2, 3, 4, 5, 6, 7] rfl)
        · replace hm := if_f c_6 hm
          refine lv_aload_n hx hb d_Model_scan_229 rfl (lv_at hl 0 rfl) ?_
          refine va_get (D := (dC, dI)) (ci := 12) (v := .ref ((v 73))) (C := R_Model) (T := F_Model) (N := 127) hx hb htt iw_Model hown hK hP 0 yo_12 rfl 73 (Nat.le_of_ble_eq_true rfl) (htt _ lk_Model_261) (fun _ h9 => h9) yg_73 d_Model_scan_230 ?_
          refine lv_iload hx hb d_Model_scan_233 (lv_at hl 6 rfl) ?_
          obtain ⟨h_7, hm⟩ := ck_some hm
          refine va_bald hx hb hK hP 49 2 ya_73 rfl h_7 d_Model_scan_235 ?_
          obtain ⟨r_9, h_8, hm⟩ := ob0_some hm
          have hFc := x_free0 hS hA
          refine va_calli (va_runS (As := [.int (a 73 v6.toNatClampNeg)]) (rest := []) ⟨hx, hb, hml, hown, hts⟩ (x_Model_isBlank l H.size n h_8) (va_cwS 1 hts (tw_GS tw_cons cw_Model_isBlank lk_Model_422 st_Model_isBlank ini_Model) rfl rfl rfl hd_Model_isBlank ⟨Nat.le_of_ble_eq_true rfl, Nat.le_of_ble_eq_true rfl⟩) xpS0 rfl rfl hl.1 rfl (lv_room (Nat.le_of_ble_eq_true rfl)) d_Model_scan_236 ⟨Nat.le_of_ble_eq_true rfl, Nat.le_of_ble_eq_true rfl⟩) hS (fun q _ h => hFc q h) hFc (fun r9 u9 t9 H locs ht hvm e9 hB hz1 hk1 hS => ?_)
          have e9 : r_9 = r9 := e9
          subst e9
          replace hP := x_keep hP hk1
          clear hFc hk1 hz1 hvm hB ht
          refine lv_if_ne (tgt := 285) hx hb d_Model_scan_239 (by decide) (fun c_10 => ?_) (fun c_10 => ?_)
          · replace hm := if_f c_10 hm
            exact lb_Model_scan_285 l dC dI cI cJ cB adK adV adA h v n hx hb hml hown hts hK hE hA hr hlocks rc_35 Hrc_35 _ _ _ _ _ _ _ _ _ _ _ hm _ _ _ hP hD hS (lv_sub hl [0, 1, 2, 3, 4, 5, 6, 7] rfl)
          · replace hm := if_t c_10 hm
            refine lv_aload_n hx hb d_Model_scan_242 rfl (lv_at hl 0 rfl) ?_
            refine va_get (D := (dC, dI)) (ci := 12) (v := .ref ((v 73))) (C := R_Model) (T := F_Model) (N := 127) hx hb htt iw_Model hown hK hP 0 yo_12 rfl 73 (Nat.le_of_ble_eq_true rfl) (htt _ lk_Model_261) (fun _ h9 => h9) yg_73 d_Model_scan_243 ?_
            refine lv_iload hx hb d_Model_scan_246 (lv_at hl 6 rfl) ?_
            obtain ⟨h_11, hm⟩ := ck_some hm
            refine va_bald hx hb hK hP 49 2 ya_73 rfl h_11 d_Model_scan_248 ?_
            refine lv_bipush (v := 91) hx hb d_Model_scan_249 (by decide) ?_
            refine lv_icmp_eq (tgt := 285) hx hb d_Model_scan_251 (by decide) (fun c_12 => ?_) (fun c_12 => ?_)
            · replace hm := if_t c_12 hm
              exact lb_Model_scan_285 l dC dI cI cJ cB adK adV adA h v n hx hb hml hown hts hK hE hA hr hlocks rc_35 Hrc_35 _ _ _ _ _ _ _ _ _ _ _ hm _ _ _ hP hD hS (lv_sub hl [0, 1, 2, 3, 4, 5, 6, 7] rfl)
            · replace hm := if_f c_12 hm
              refine lv_aload_n hx hb d_Model_scan_254 rfl (lv_at hl 0 rfl) ?_
              refine va_get (D := (dC, dI)) (ci := 12) (v := .ref ((v 73))) (C := R_Model) (T := F_Model) (N := 127) hx hb htt iw_Model hown hK hP 0 yo_12 rfl 73 (Nat.le_of_ble_eq_true rfl) (htt _ lk_Model_261) (fun _ h9 => h9) yg_73 d_Model_scan_255 ?_
              refine lv_iload hx hb d_Model_scan_258 (lv_at hl 6 rfl) ?_
              obtain ⟨h_13, hm⟩ := ck_some hm
              refine va_bald hx hb hK hP 49 2 ya_73 rfl h_13 d_Model_scan_260 ?_
              refine lv_bipush (v := 93) hx hb d_Model_scan_261 (by decide) ?_
              refine lv_icmp_eq (tgt := 285) hx hb d_Model_scan_263 (by decide) (fun c_14 => ?_) (fun c_14 => ?_)
              · replace hm := if_t c_14 hm
                exact lb_Model_scan_285 l dC dI cI cJ cB adK adV adA h v n hx hb hml hown hts hK hE hA hr hlocks rc_35 Hrc_35 _ _ _ _ _ _ _ _ _ _ _ hm _ _ _ hP hD hS (lv_sub hl [0, 1, 2, 3, 4, 5, 6, 7] rfl)
              · replace hm := if_f c_14 hm
                refine lv_aload_n hx hb d_Model_scan_266 rfl (lv_at hl 0 rfl) ?_
                refine va_get (D := (dC, dI)) (ci := 12) (v := .ref ((v 73))) (C := R_Model) (T := F_Model) (N := 127) hx hb htt iw_Model hown hK hP 0 yo_12 rfl 73 (Nat.le_of_ble_eq_true rfl) (htt _ lk_Model_261) (fun _ h9 => h9) yg_73 d_Model_scan_267 ?_
                refine lv_iload hx hb d_Model_scan_270 (lv_at hl 6 rfl) ?_
                obtain ⟨h_15, hm⟩ := ck_some hm
                refine va_bald hx hb hK hP 49 2 ya_73 rfl h_15 d_Model_scan_272 ?_
                obtain ⟨r_17, h_16, hm⟩ := ob0_some hm
                have hFc := x_free0 hS hA
                refine va_calli (va_runS (As := [.int (a 73 v6.toNatClampNeg)]) (rest := []) ⟨hx, hb, hml, hown, hts⟩ (x_Model_isSingle l H.size n h_16) (va_cwS 1 hts (tw_GS tw_cons cw_Model_isSingle lk_Model_441 st_Model_isSingle ini_Model) rfl rfl rfl hd_Model_isSingle ⟨Nat.le_of_ble_eq_true rfl, Nat.le_of_ble_eq_true rfl⟩) xpS0 rfl rfl hl.1 rfl (lv_room (Nat.le_of_ble_eq_true rfl)) d_Model_scan_273 ⟨Nat.le_of_ble_eq_true rfl, Nat.le_of_ble_eq_true rfl⟩) hS (fun q _ h => hFc q h) hFc (fun r9 u9 t9 H locs ht hvm e9 hB hz1 hk1 hS => ?_)
                have e9 : r_17 = r9 := e9
                subst e9
                replace hP := x_keep hP hk1
                clear hFc hk1 hz1 hvm hB ht
                refine lv_if_ne (tgt := 285) hx hb d_Model_scan_276 (by decide) (fun c_18 => ?_) (fun c_18 => ?_)
                · replace hm := if_f c_18 hm
                  exact lb_Model_scan_285 l dC dI cI cJ cB adK adV adA h v n hx hb hml hown hts hK hE hA hr hlocks rc_35 Hrc_35 _ _ _ _ _ _ _ _ _ _ _ hm _ _ _ hP hD hS (lv_sub hl [0, 1, 2, 3, 4, 5, 6, 7] rfl)
                · replace hm := if_t c_18 hm
                  obtain ⟨x_19, ex_19⟩ : ∃ y9 : Int32, y9 = v6 + 1 := ⟨_, rfl⟩
                  replace hm := ob1_at ex_19 hm
                  refine lv_iinc (v := x_19) (lv' := [(6, .int x_19), (0, .ref h), (1, .int v1), (2, .int v2), (3, .int v3), (4, .int v4), (5, .int v5), (7, .int v7)]) hx hb d_Model_scan_279 hl (k := 6) rfl (by rw [ex_19]; rfl) (by decide) rfl (fun ls hl => ?_)
                  refine lv_goto (tgt := 205) hx hb d_Model_scan_282 (by decide) ?_
                  exact ih _ _ _ _ _ _ _ _ _ _ _ hm _ _ _ hP hD hS (lv_sub hl [1, 2, 3, 4, 5, 6, 0, 7] rfl)
def m_Model_scan_b203 (n : Nat) (rc_35 : (Nat → Int32) → (Nat → Int64) → (Nat → Nat → Int32) → (Nat → Nat → Int64) → Int32 → Int32 → Int32 → Int32 → Option ((Nat → Int32) × (Nat → Int64) × (Nat → Nat → Int32) × (Nat → Nat → Int64) × Int32)) (i : Nat → Int32) (j : Nat → Int64) (a : Nat → Nat → Int32) (b : Nat → Nat → Int64) (v1 : Int32) (v2 : Int32) (v3 : Int32) (v4 : Int32) (v5 : Int32) (v6 : Int32) (s0 : Int32) : Option ((Nat → Int32) × (Nat → Int64) × (Nat → Nat → Int32) × (Nat → Nat → Int64) × Int32) := m_Model_scan_b205 n rc_35 n i j a b v1 v2 v3 v4 v5 v6 s0
set_option maxHeartbeats 4000000 in
set_option maxRecDepth 100000 in
theorem lb_Model_scan_203 (l : Launch) (dC : Nat → ClassId) (dI : Nat → Nat → Nat) (cI cJ cB : ClassId) (adK adV adA : Nat → Nat) (h : Nat) (v : Nat → Nat) (n : Nat) {p : Program} {e : Env} {s : State} {m : MethodId} {args : Array Value} {below : List Frame} {meth : Method} {c : Code} {A : Nat → Prop} (hx : p.tables.exec = Jvm.exec) (hb : c.code = b_Model_scan) (hml : c.maxLocals = 10) (hown : s.vm.findClass R_Model = some m.cls) (hts : ∀ w ∈ w_Model_scan, w.before args s = true) (hK : va_K (dC, dI) classes [(cI, .int), (cJ, .long), (cB, .byte)] s) (hE : tw_E adK adV adA A s s.heap) (hA : ∀ q : Nat, s.heap.size ≤ q → A q) (hr : meth.sig.returnType = (some .boolean)) (hlocks : meth.locks = false) {i2 : Nat → Int32} {j2 : Nat → Int64} {a2 : Nat → Nat → Int32} {b2 : Nat → Nat → Int64} {r2 : Int32} (rc_35 : (Nat → Int32) → (Nat → Int64) → (Nat → Nat → Int32) → (Nat → Nat → Int64) → Int32 → Int32 → Int32 → Int32 → Option ((Nat → Int32) × (Nat → Int64) × (Nat → Nat → Int32) × (Nat → Nat → Int64) × Int32)) (Hrc_35 : ∀ (i : Nat → Int32) (j : Nat → Int64) (a : Nat → Nat → Int32) (b : Nat → Nat → Int64) (v1 : Int32) (v2 : Int32) (v3 : Int32) (v4 : Int32), rc_35 i j a b v1 v2 v3 v4 = some (i2, j2, a2, b2, r2) → ∀ (H : Heap) (locs : List Loc) (ls : Array Slot), va_P (dC, dI) classes (MW cI cJ cB h v i j a b) H → va_D A (MW cI cJ cB h v i j a b) → va_S A s.heap H locs → lv_has ls 10 [(0, .ref h), (1, .int v1), (2, .int v2), (3, .int v3), (4, .int v4)] → W p l e ({ frames := 7, cells := 0, slots := 0, locals := 160 } : Room) s m args below meth c H locs 0 0 (MQ below (va_Qi (xR r2) (yB dC dI cI cJ cB h v i2 j2 a2 b2 A) A) args s 0 0 A) (F0 m 35 ls [])) (i : Nat → Int32) (j : Nat → Int64) (a : Nat → Nat → Int32) (b : Nat → Nat → Int64) (v1 : Int32) (v2 : Int32) (v3 : Int32) (v4 : Int32) (v5 : Int32) (v6 : Int32) (s0 : Int32) (hm : m_Model_scan_b203 n rc_35 i j a b v1 v2 v3 v4 v5 v6 s0 = some (i2, j2, a2, b2, r2)) : ∀ (H : Heap) (locs : List Loc) (ls : Array Slot), va_P (dC, dI) classes (MW cI cJ cB h v i j a b) H → va_D A (MW cI cJ cB h v i j a b) → va_S A s.heap H locs → lv_has ls 10 [(0, .ref h), (1, .int v1), (2, .int v2), (3, .int v3), (4, .int v4), (5, .int v5), (6, .int v6)] → W p l e ({ frames := 7, cells := 0, slots := 0, locals := 160 } : Room) s m args below meth c H locs 0 0 (MQ below (va_Qi (xR r2) (yB dC dI cI cJ cB h v i2 j2 a2 b2 A) A) args s 0 0 A) (F0 m 203 ls [.int s0]) := by
  have htt : ∀ w ∈ tw_T, w.before _ s = true := fun w h => hts w (List.mem_cons_of_mem _ h)
  intro H locs ls hP hD hS hl
  rw [m_Model_scan_b203] at hm
  refine lv_istore (lv' := [(7, .int s0), (0, .ref h), (1, .int v1), (2, .int v2), (3, .int v3), (4, .int v4), (5, .int v5), (6, .int v6)]) hx hb d_Model_scan_203 hl (by decide) rfl (fun ls hl => ?_)
  exact lb_Model_scan_205 l dC dI cI cJ cB adK adV adA h v n hx hb hml hown hts hK hE hA hr hlocks rc_35 Hrc_35 n _ _ _ _ _ _ _ _ _ _ _ hm _ _ _ hP hD hS (lv_sub hl [1, 2, 3, 4, 5, 6, 7, 0] rfl)
def m_Model_scan_b198 (n : Nat) (rc_35 : (Nat → Int32) → (Nat → Int64) → (Nat → Nat → Int32) → (Nat → Nat → Int64) → Int32 → Int32 → Int32 → Int32 → Option ((Nat → Int32) × (Nat → Int64) × (Nat → Nat → Int32) × (Nat → Nat → Int64) × Int32)) (i : Nat → Int32) (j : Nat → Int64) (a : Nat → Nat → Int32) (b : Nat → Nat → Int64) (v1 : Int32) (v2 : Int32) (v3 : Int32) (v4 : Int32) (v5 : Int32) (v6 : Int32) : Option ((Nat → Int32) × (Nat → Int64) × (Nat → Nat → Int32) × (Nat → Nat → Int64) × Int32) := m_Model_scan_b203 n rc_35 i j a b v1 v2 v3 v4 v5 v6 (1 : Int32)
set_option maxHeartbeats 4000000 in
set_option maxRecDepth 100000 in
theorem lb_Model_scan_198 (l : Launch) (dC : Nat → ClassId) (dI : Nat → Nat → Nat) (cI cJ cB : ClassId) (adK adV adA : Nat → Nat) (h : Nat) (v : Nat → Nat) (n : Nat) {p : Program} {e : Env} {s : State} {m : MethodId} {args : Array Value} {below : List Frame} {meth : Method} {c : Code} {A : Nat → Prop} (hx : p.tables.exec = Jvm.exec) (hb : c.code = b_Model_scan) (hml : c.maxLocals = 10) (hown : s.vm.findClass R_Model = some m.cls) (hts : ∀ w ∈ w_Model_scan, w.before args s = true) (hK : va_K (dC, dI) classes [(cI, .int), (cJ, .long), (cB, .byte)] s) (hE : tw_E adK adV adA A s s.heap) (hA : ∀ q : Nat, s.heap.size ≤ q → A q) (hr : meth.sig.returnType = (some .boolean)) (hlocks : meth.locks = false) {i2 : Nat → Int32} {j2 : Nat → Int64} {a2 : Nat → Nat → Int32} {b2 : Nat → Nat → Int64} {r2 : Int32} (rc_35 : (Nat → Int32) → (Nat → Int64) → (Nat → Nat → Int32) → (Nat → Nat → Int64) → Int32 → Int32 → Int32 → Int32 → Option ((Nat → Int32) × (Nat → Int64) × (Nat → Nat → Int32) × (Nat → Nat → Int64) × Int32)) (Hrc_35 : ∀ (i : Nat → Int32) (j : Nat → Int64) (a : Nat → Nat → Int32) (b : Nat → Nat → Int64) (v1 : Int32) (v2 : Int32) (v3 : Int32) (v4 : Int32), rc_35 i j a b v1 v2 v3 v4 = some (i2, j2, a2, b2, r2) → ∀ (H : Heap) (locs : List Loc) (ls : Array Slot), va_P (dC, dI) classes (MW cI cJ cB h v i j a b) H → va_D A (MW cI cJ cB h v i j a b) → va_S A s.heap H locs → lv_has ls 10 [(0, .ref h), (1, .int v1), (2, .int v2), (3, .int v3), (4, .int v4)] → W p l e ({ frames := 7, cells := 0, slots := 0, locals := 160 } : Room) s m args below meth c H locs 0 0 (MQ below (va_Qi (xR r2) (yB dC dI cI cJ cB h v i2 j2 a2 b2 A) A) args s 0 0 A) (F0 m 35 ls [])) (i : Nat → Int32) (j : Nat → Int64) (a : Nat → Nat → Int32) (b : Nat → Nat → Int64) (v1 : Int32) (v2 : Int32) (v3 : Int32) (v4 : Int32) (v5 : Int32) (v6 : Int32) (hm : m_Model_scan_b198 n rc_35 i j a b v1 v2 v3 v4 v5 v6 = some (i2, j2, a2, b2, r2)) : ∀ (H : Heap) (locs : List Loc) (ls : Array Slot), va_P (dC, dI) classes (MW cI cJ cB h v i j a b) H → va_D A (MW cI cJ cB h v i j a b) → va_S A s.heap H locs → lv_has ls 10 [(0, .ref h), (1, .int v1), (2, .int v2), (3, .int v3), (4, .int v4), (5, .int v5), (6, .int v6)] → W p l e ({ frames := 7, cells := 0, slots := 0, locals := 160 } : Room) s m args below meth c H locs 0 0 (MQ below (va_Qi (xR r2) (yB dC dI cI cJ cB h v i2 j2 a2 b2 A) A) args s 0 0 A) (F0 m 198 ls []) := by
  have htt : ∀ w ∈ tw_T, w.before _ s = true := fun w h => hts w (List.mem_cons_of_mem _ h)
  intro H locs ls hP hD hS hl
  rw [m_Model_scan_b198] at hm
  refine lv_iconst (v := 1) hx hb d_Model_scan_198 (by decide) ?_
  refine lv_goto (tgt := 203) hx hb d_Model_scan_199 (by decide) ?_
  exact lb_Model_scan_203 l dC dI cI cJ cB adK adV adA h v n hx hb hml hown hts hK hE hA hr hlocks rc_35 Hrc_35 _ _ _ _ _ _ _ _ _ _ _ hm _ _ _ hP hD hS (lv_sub hl [0, 1, 2, 3, 4, 5, 6] rfl)
def m_Model_scan_b202 (n : Nat) (rc_35 : (Nat → Int32) → (Nat → Int64) → (Nat → Nat → Int32) → (Nat → Nat → Int64) → Int32 → Int32 → Int32 → Int32 → Option ((Nat → Int32) × (Nat → Int64) × (Nat → Nat → Int32) × (Nat → Nat → Int64) × Int32)) (i : Nat → Int32) (j : Nat → Int64) (a : Nat → Nat → Int32) (b : Nat → Nat → Int64) (v1 : Int32) (v2 : Int32) (v3 : Int32) (v4 : Int32) (v5 : Int32) (v6 : Int32) : Option ((Nat → Int32) × (Nat → Int64) × (Nat → Nat → Int32) × (Nat → Nat → Int64) × Int32) := m_Model_scan_b203 n rc_35 i j a b v1 v2 v3 v4 v5 v6 (0 : Int32)
set_option maxHeartbeats 4000000 in
set_option maxRecDepth 100000 in
theorem lb_Model_scan_202 (l : Launch) (dC : Nat → ClassId) (dI : Nat → Nat → Nat) (cI cJ cB : ClassId) (adK adV adA : Nat → Nat) (h : Nat) (v : Nat → Nat) (n : Nat) {p : Program} {e : Env} {s : State} {m : MethodId} {args : Array Value} {below : List Frame} {meth : Method} {c : Code} {A : Nat → Prop} (hx : p.tables.exec = Jvm.exec) (hb : c.code = b_Model_scan) (hml : c.maxLocals = 10) (hown : s.vm.findClass R_Model = some m.cls) (hts : ∀ w ∈ w_Model_scan, w.before args s = true) (hK : va_K (dC, dI) classes [(cI, .int), (cJ, .long), (cB, .byte)] s) (hE : tw_E adK adV adA A s s.heap) (hA : ∀ q : Nat, s.heap.size ≤ q → A q) (hr : meth.sig.returnType = (some .boolean)) (hlocks : meth.locks = false) {i2 : Nat → Int32} {j2 : Nat → Int64} {a2 : Nat → Nat → Int32} {b2 : Nat → Nat → Int64} {r2 : Int32} (rc_35 : (Nat → Int32) → (Nat → Int64) → (Nat → Nat → Int32) → (Nat → Nat → Int64) → Int32 → Int32 → Int32 → Int32 → Option ((Nat → Int32) × (Nat → Int64) × (Nat → Nat → Int32) × (Nat → Nat → Int64) × Int32)) (Hrc_35 : ∀ (i : Nat → Int32) (j : Nat → Int64) (a : Nat → Nat → Int32) (b : Nat → Nat → Int64) (v1 : Int32) (v2 : Int32) (v3 : Int32) (v4 : Int32), rc_35 i j a b v1 v2 v3 v4 = some (i2, j2, a2, b2, r2) → ∀ (H : Heap) (locs : List Loc) (ls : Array Slot), va_P (dC, dI) classes (MW cI cJ cB h v i j a b) H → va_D A (MW cI cJ cB h v i j a b) → va_S A s.heap H locs → lv_has ls 10 [(0, .ref h), (1, .int v1), (2, .int v2), (3, .int v3), (4, .int v4)] → W p l e ({ frames := 7, cells := 0, slots := 0, locals := 160 } : Room) s m args below meth c H locs 0 0 (MQ below (va_Qi (xR r2) (yB dC dI cI cJ cB h v i2 j2 a2 b2 A) A) args s 0 0 A) (F0 m 35 ls [])) (i : Nat → Int32) (j : Nat → Int64) (a : Nat → Nat → Int32) (b : Nat → Nat → Int64) (v1 : Int32) (v2 : Int32) (v3 : Int32) (v4 : Int32) (v5 : Int32) (v6 : Int32) (hm : m_Model_scan_b202 n rc_35 i j a b v1 v2 v3 v4 v5 v6 = some (i2, j2, a2, b2, r2)) : ∀ (H : Heap) (locs : List Loc) (ls : Array Slot), va_P (dC, dI) classes (MW cI cJ cB h v i j a b) H → va_D A (MW cI cJ cB h v i j a b) → va_S A s.heap H locs → lv_has ls 10 [(0, .ref h), (1, .int v1), (2, .int v2), (3, .int v3), (4, .int v4), (5, .int v5), (6, .int v6)] → W p l e ({ frames := 7, cells := 0, slots := 0, locals := 160 } : Room) s m args below meth c H locs 0 0 (MQ below (va_Qi (xR r2) (yB dC dI cI cJ cB h v i2 j2 a2 b2 A) A) args s 0 0 A) (F0 m 202 ls []) := by
  have htt : ∀ w ∈ tw_T, w.before _ s = true := fun w h => hts w (List.mem_cons_of_mem _ h)
  intro H locs ls hP hD hS hl
  rw [m_Model_scan_b202] at hm
  refine lv_iconst (v := 0) hx hb d_Model_scan_202 (by decide) ?_
  exact lb_Model_scan_203 l dC dI cI cJ cB adK adV adA h v n hx hb hml hown hts hK hE hA hr hlocks rc_35 Hrc_35 _ _ _ _ _ _ _ _ _ _ _ hm _ _ _ hP hD hS (lv_sub hl [0, 1, 2, 3, 4, 5, 6] rfl)
def m_Model_scan_b147 (n : Nat) (rc_35 : (Nat → Int32) → (Nat → Int64) → (Nat → Nat → Int32) → (Nat → Nat → Int64) → Int32 → Int32 → Int32 → Int32 → Option ((Nat → Int32) × (Nat → Int64) × (Nat → Nat → Int32) × (Nat → Nat → Int64) × Int32)) (rc_102 : (Nat → Int32) → (Nat → Int64) → (Nat → Nat → Int32) → (Nat → Nat → Int64) → Int32 → Int32 → Int32 → Int32 → Option ((Nat → Int32) × (Nat → Int64) × (Nat → Nat → Int32) × (Nat → Nat → Int64) × Int32)) (i : Nat → Int32) (j : Nat → Int64) (a : Nat → Nat → Int32) (b : Nat → Nat → Int64) (v1 : Int32) (v2 : Int32) (v3 : Int32) (v4 : Int32) : Option ((Nat → Int32) × (Nat → Int64) × (Nat → Nat → Int32) × (Nat → Nat → Int64) × Int32) := ob1 (v4 + 1 : Int32) (fun x_1 => rc_102 i j a b v1 v2 v3 x_1)
set_option maxHeartbeats 4000000 in
set_option maxRecDepth 100000 in
theorem lb_Model_scan_147 (l : Launch) (dC : Nat → ClassId) (dI : Nat → Nat → Nat) (cI cJ cB : ClassId) (adK adV adA : Nat → Nat) (h : Nat) (v : Nat → Nat) (n : Nat) {p : Program} {e : Env} {s : State} {m : MethodId} {args : Array Value} {below : List Frame} {meth : Method} {c : Code} {A : Nat → Prop} (hx : p.tables.exec = Jvm.exec) (hb : c.code = b_Model_scan) (hml : c.maxLocals = 10) (hown : s.vm.findClass R_Model = some m.cls) (hts : ∀ w ∈ w_Model_scan, w.before args s = true) (hK : va_K (dC, dI) classes [(cI, .int), (cJ, .long), (cB, .byte)] s) (hE : tw_E adK adV adA A s s.heap) (hA : ∀ q : Nat, s.heap.size ≤ q → A q) (hr : meth.sig.returnType = (some .boolean)) (hlocks : meth.locks = false) {i2 : Nat → Int32} {j2 : Nat → Int64} {a2 : Nat → Nat → Int32} {b2 : Nat → Nat → Int64} {r2 : Int32} (rc_35 : (Nat → Int32) → (Nat → Int64) → (Nat → Nat → Int32) → (Nat → Nat → Int64) → Int32 → Int32 → Int32 → Int32 → Option ((Nat → Int32) × (Nat → Int64) × (Nat → Nat → Int32) × (Nat → Nat → Int64) × Int32)) (rc_102 : (Nat → Int32) → (Nat → Int64) → (Nat → Nat → Int32) → (Nat → Nat → Int64) → Int32 → Int32 → Int32 → Int32 → Option ((Nat → Int32) × (Nat → Int64) × (Nat → Nat → Int32) × (Nat → Nat → Int64) × Int32)) (Hrc_35 : ∀ (i : Nat → Int32) (j : Nat → Int64) (a : Nat → Nat → Int32) (b : Nat → Nat → Int64) (v1 : Int32) (v2 : Int32) (v3 : Int32) (v4 : Int32), rc_35 i j a b v1 v2 v3 v4 = some (i2, j2, a2, b2, r2) → ∀ (H : Heap) (locs : List Loc) (ls : Array Slot), va_P (dC, dI) classes (MW cI cJ cB h v i j a b) H → va_D A (MW cI cJ cB h v i j a b) → va_S A s.heap H locs → lv_has ls 10 [(0, .ref h), (1, .int v1), (2, .int v2), (3, .int v3), (4, .int v4)] → W p l e ({ frames := 7, cells := 0, slots := 0, locals := 160 } : Room) s m args below meth c H locs 0 0 (MQ below (va_Qi (xR r2) (yB dC dI cI cJ cB h v i2 j2 a2 b2 A) A) args s 0 0 A) (F0 m 35 ls [])) (Hrc_102 : ∀ (i : Nat → Int32) (j : Nat → Int64) (a : Nat → Nat → Int32) (b : Nat → Nat → Int64) (v1 : Int32) (v2 : Int32) (v3 : Int32) (v4 : Int32), rc_102 i j a b v1 v2 v3 v4 = some (i2, j2, a2, b2, r2) → ∀ (H : Heap) (locs : List Loc) (ls : Array Slot), va_P (dC, dI) classes (MW cI cJ cB h v i j a b) H → va_D A (MW cI cJ cB h v i j a b) → va_S A s.heap H locs → lv_has ls 10 [(0, .ref h), (1, .int v1), (2, .int v2), (3, .int v3), (4, .int v4)] → W p l e ({ frames := 7, cells := 0, slots := 0, locals := 160 } : Room) s m args below meth c H locs 0 0 (MQ below (va_Qi (xR r2) (yB dC dI cI cJ cB h v i2 j2 a2 b2 A) A) args s 0 0 A) (F0 m 102 ls [])) (i : Nat → Int32) (j : Nat → Int64) (a : Nat → Nat → Int32) (b : Nat → Nat → Int64) (v1 : Int32) (v2 : Int32) (v3 : Int32) (v4 : Int32) (hm : m_Model_scan_b147 n rc_35 rc_102 i j a b v1 v2 v3 v4 = some (i2, j2, a2, b2, r2)) : ∀ (H : Heap) (locs : List Loc) (ls : Array Slot), va_P (dC, dI) classes (MW cI cJ cB h v i j a b) H → va_D A (MW cI cJ cB h v i j a b) → va_S A s.heap H locs → lv_has ls 10 [(0, .ref h), (1, .int v1), (2, .int v2), (3, .int v3), (4, .int v4)] → W p l e ({ frames := 7, cells := 0, slots := 0, locals := 160 } : Room) s m args below meth c H locs 0 0 (MQ below (va_Qi (xR r2) (yB dC dI cI cJ cB h v i2 j2 a2 b2 A) A) args s 0 0 A) (F0 m 147 ls []) := by
  have htt : ∀ w ∈ tw_T, w.before _ s = true := fun w h => hts w (List.mem_cons_of_mem _ h)
  intro H locs ls hP hD hS hl
  rw [m_Model_scan_b147] at hm
  obtain ⟨x_1, ex_1⟩ : ∃ y9 : Int32, y9 = v4 + 1 := ⟨_, rfl⟩
  replace hm := ob1_at ex_1 hm
  refine lv_iinc (v := x_1) (lv' := [(4, .int x_1), (0, .ref h), (1, .int v1), (2, .int v2), (3, .int v3)]) hx hb d_Model_scan_147 hl (k := 4) rfl (by rw [ex_1]; rfl) (by decide) rfl (fun ls hl => ?_)
  refine lv_goto (tgt := 102) hx hb d_Model_scan_150 (by decide) ?_
  exact Hrc_102 _ _ _ _ _ _ _ _ hm _ _ _ hP hD hS (lv_sub hl [1, 2, 3, 4, 0] rfl)
def m_Model_scan_b102 (n : Nat) (rc_35 : (Nat → Int32) → (Nat → Int64) → (Nat → Nat → Int32) → (Nat → Nat → Int64) → Int32 → Int32 → Int32 → Int32 → Option ((Nat → Int32) × (Nat → Int64) × (Nat → Nat → Int32) × (Nat → Nat → Int64) × Int32)) : Nat → (Nat → Int32) → (Nat → Int64) → (Nat → Nat → Int32) → (Nat → Nat → Int64) → Int32 → Int32 → Int32 → Int32 → Option ((Nat → Int32) × (Nat → Int64) × (Nat → Nat → Int32) × (Nat → Nat → Int64) × Int32)
  | 0, _, _, _, _, _, _, _, _ => none
  | f + 1, i, j, a, b, v1, v2, v3, v4 => if v2 ≤ v4 then rc_35 i j a b v1 v2 v3 v4 else ck v4 4000 (if ((a 73 v4.toNatClampNeg)) = ((10 : Int32)) then rc_35 i j a b v1 v2 v3 v4 else if ((i 75)) = ((0 : Int32)) then ck v4 4000 (ob0 (m_Model_isGood n (a 73 v4.toNatClampNeg)) (fun r_7 => if r_7 = ((0 : Int32)) then om (m_Model_fail n i j a b (1 : Int32) v4) (fun i_10 j_11 a_12 b_13 r_14 => m_Model_scan_b147 n rc_35 (m_Model_scan_b102 n rc_35 f) i_10 j_11 a_12 b_13 v1 v2 v3 v4) else m_Model_scan_b147 n rc_35 (m_Model_scan_b102 n rc_35 f) i j a b v1 v2 v3 v4)) else rc_35 i j a b v1 v2 v3 v4)
set_option maxHeartbeats 4000000 in
set_option maxRecDepth 100000 in
theorem lb_Model_scan_102 (l : Launch) (dC : Nat → ClassId) (dI : Nat → Nat → Nat) (cI cJ cB : ClassId) (adK adV adA : Nat → Nat) (h : Nat) (v : Nat → Nat) (n : Nat) {p : Program} {e : Env} {s : State} {m : MethodId} {args : Array Value} {below : List Frame} {meth : Method} {c : Code} {A : Nat → Prop} (hx : p.tables.exec = Jvm.exec) (hb : c.code = b_Model_scan) (hml : c.maxLocals = 10) (hown : s.vm.findClass R_Model = some m.cls) (hts : ∀ w ∈ w_Model_scan, w.before args s = true) (hK : va_K (dC, dI) classes [(cI, .int), (cJ, .long), (cB, .byte)] s) (hE : tw_E adK adV adA A s s.heap) (hA : ∀ q : Nat, s.heap.size ≤ q → A q) (hr : meth.sig.returnType = (some .boolean)) (hlocks : meth.locks = false) {i2 : Nat → Int32} {j2 : Nat → Int64} {a2 : Nat → Nat → Int32} {b2 : Nat → Nat → Int64} {r2 : Int32} (rc_35 : (Nat → Int32) → (Nat → Int64) → (Nat → Nat → Int32) → (Nat → Nat → Int64) → Int32 → Int32 → Int32 → Int32 → Option ((Nat → Int32) × (Nat → Int64) × (Nat → Nat → Int32) × (Nat → Nat → Int64) × Int32)) (Hrc_35 : ∀ (i : Nat → Int32) (j : Nat → Int64) (a : Nat → Nat → Int32) (b : Nat → Nat → Int64) (v1 : Int32) (v2 : Int32) (v3 : Int32) (v4 : Int32), rc_35 i j a b v1 v2 v3 v4 = some (i2, j2, a2, b2, r2) → ∀ (H : Heap) (locs : List Loc) (ls : Array Slot), va_P (dC, dI) classes (MW cI cJ cB h v i j a b) H → va_D A (MW cI cJ cB h v i j a b) → va_S A s.heap H locs → lv_has ls 10 [(0, .ref h), (1, .int v1), (2, .int v2), (3, .int v3), (4, .int v4)] → W p l e ({ frames := 7, cells := 0, slots := 0, locals := 160 } : Room) s m args below meth c H locs 0 0 (MQ below (va_Qi (xR r2) (yB dC dI cI cJ cB h v i2 j2 a2 b2 A) A) args s 0 0 A) (F0 m 35 ls [])) : ∀ (f : Nat) (i : Nat → Int32) (j : Nat → Int64) (a : Nat → Nat → Int32) (b : Nat → Nat → Int64) (v1 : Int32) (v2 : Int32) (v3 : Int32) (v4 : Int32), m_Model_scan_b102 n rc_35 f i j a b v1 v2 v3 v4 = some (i2, j2, a2, b2, r2) → ∀ (H : Heap) (locs : List Loc) (ls : Array Slot), va_P (dC, dI) classes (MW cI cJ cB h v i j a b) H → va_D A (MW cI cJ cB h v i j a b) → va_S A s.heap H locs → lv_has ls 10 [(0, .ref h), (1, .int v1), (2, .int v2), (3, .int v3), (4, .int v4)] → W p l e ({ frames := 7, cells := 0, slots := 0, locals := 160 } : Room) s m args below meth c H locs 0 0 (MQ below (va_Qi (xR r2) (yB dC dI cI cJ cB h v i2 j2 a2 b2 A) A) args s 0 0 A) (F0 m 102 ls []) := by
  have htt : ∀ w ∈ tw_T, w.before _ s = true := fun w h => hts w (List.mem_cons_of_mem _ h)
  intro f
  induction f with
  | zero =>
    intro i j a b v1 v2 v3 v4 hm
    rw [m_Model_scan_b102] at hm
    cases hm
  | succ f ih =>
    intro i j a b v1 v2 v3 v4 hm H locs ls hP hD hS hl
    rw [m_Model_scan_b102] at hm
    refine lv_iload hx hb d_Model_scan_102 (lv_at hl 4 rfl) ?_
    refine lv_iload_n hx hb d_Model_scan_104 rfl (lv_at hl 2 rfl) ?_
    refine lv_icmp_ge (tgt := 35) hx hb d_Model_scan_105 (by decide) (fun c_1 => ?_) (fun c_1 => ?_)
    · replace hm := if_t c_1 hm
      exact Hrc_35 _ _ _ _ _ _ _ _ hm _ _ _ hP hD hS (lv_sub hl [0, 1, 2, 3, 4] rfl)
    · replace hm := if_f c_1 hm
      refine lv_aload_n hx hb d_Model_scan_108 rfl (lv_at hl 0 rfl) ?_
      refine va_get (D := (dC, dI)) (ci := 12) (v := .ref ((v 73))) (C := R_Model) (T := F_Model) (N := 127) hx hb htt iw_Model hown hK hP 0 yo_12 rfl 73 (Nat.le_of_ble_eq_true rfl) (htt _ lk_Model_261) (fun _ h9 => h9) yg_73 d_Model_scan_109 ?_
      refine lv_iload hx hb d_Model_scan_112 (lv_at hl 4 rfl) ?_
      obtain ⟨h_2, hm⟩ := ck_some hm
      refine va_bald hx hb hK hP 49 2 ya_73 rfl h_2 d_Model_scan_114 ?_
      refine lv_bipush (v := 10) hx hb d_Model_scan_115 (by decide) ?_
      refine lv_icmp_eq (tgt := 35) hx hb d_Model_scan_117 (by decide) (fun c_3 => ?_) (fun c_3 => ?_)
      · replace hm := if_t c_3 hm
        exact Hrc_35 _ _ _ _ _ _ _ _ hm _ _ _ hP hD hS (lv_sub hl [0, 1, 2, 3, 4] rfl)
      · replace hm := if_f c_3 hm
        refine lv_aload_n hx hb d_Model_scan_120 rfl (lv_at hl 0 rfl) ?_
        refine va_get (D := (dC, dI)) (ci := 12) (v := .int (i 75)) (C := R_Model) (T := F_Model) (N := 127) hx hb htt iw_Model hown hK hP 0 yo_12 rfl 75 (Nat.le_of_ble_eq_true rfl) (htt _ lk_Model_416) (fun _ h9 => h9) yg_75 d_Model_scan_121 ?_
        refine lv_if_ne (tgt := 35) hx hb d_Model_scan_124 (by decide) (fun c_4 => ?_) (fun c_4 => ?_)
        · replace hm := if_f c_4 hm
          exact Hrc_35 _ _ _ _ _ _ _ _ hm _ _ _ hP hD hS (lv_sub hl [0, 1, 2, 3, 4] rfl)
        · replace hm := if_t c_4 hm
          refine lv_aload_n hx hb d_Model_scan_127 rfl (lv_at hl 0 rfl) ?_
          refine va_get (D := (dC, dI)) (ci := 12) (v := .ref ((v 73))) (C := R_Model) (T := F_Model) (N := 127) hx hb htt iw_Model hown hK hP 0 yo_12 rfl 73 (Nat.le_of_ble_eq_true rfl) (htt _ lk_Model_261) (fun _ h9 => h9) yg_73 d_Model_scan_128 ?_
          refine lv_iload hx hb d_Model_scan_131 (lv_at hl 4 rfl) ?_
          obtain ⟨h_5, hm⟩ := ck_some hm
          refine va_bald hx hb hK hP 49 2 ya_73 rfl h_5 d_Model_scan_133 ?_
          obtain ⟨r_7, h_6, hm⟩ := ob0_some hm
          have hFc := x_free0 hS hA
          refine va_calli (va_runS (As := [.int (a 73 v4.toNatClampNeg)]) (rest := []) ⟨hx, hb, hml, hown, hts⟩ (x_Model_isGood l H.size n h_6) (va_cwS 1 hts (tw_GS tw_cons cw_Model_isGood lk_Model_434 st_Model_isGood ini_Model) rfl rfl rfl hd_Model_isGood ⟨Nat.le_of_ble_eq_true rfl, Nat.le_of_ble_eq_true rfl⟩) xpS0 rfl rfl hl.1 rfl (lv_room (Nat.le_of_ble_eq_true rfl)) d_Model_scan_134 ⟨Nat.le_of_ble_eq_true rfl, Nat.le_of_ble_eq_true rfl⟩) hS (fun q _ h => hFc q h) hFc (fun r9 u9 t9 H locs ht hvm e9 hB hz1 hk1 hS => ?_)
          have e9 : r_7 = r9 := e9
          subst e9
          replace hP := x_keep hP hk1
          clear hFc hk1 hz1 hvm hB ht
          refine lv_if_ne (tgt := 147) hx hb d_Model_scan_137 (by decide) (fun c_8 => ?_) (fun c_8 => ?_)
          · replace hm := if_f c_8 hm
            exact lb_Model_scan_147 l dC dI cI cJ cB adK adV adA h v n hx hb hml hown hts hK hE hA hr hlocks rc_35 (m_Model_scan_b102 n rc_35 f) Hrc_35 ih _ _ _ _ _ _ _ _ hm _ _ _ hP hD hS (lv_sub hl [0, 1, 2, 3, 4] rfl)
          · replace hm := if_t c_8 hm
            refine lv_aload_n hx hb d_Model_scan_140 rfl (lv_at hl 0 rfl) ?_
            refine lv_iconst (v := 1) hx hb d_Model_scan_141 (by decide) ?_
            refine lv_iload hx hb d_Model_scan_142 (lv_at hl 4 rfl) ?_
            obtain ⟨i_10, j_11, a_12, b_13, r_14, h_9, hm⟩ := om_some hm
            have hFc := x_free hD hS hA
            refine va_callv (va_runV (As := [.int 1, .int v4]) (rest := []) ⟨hx, hb, hml, hown, hts⟩ (x_Model_fail l dC dI cI cJ cB adK adV adA h v H.size n h_9) (cwV 2 hts (tw_GV tw_cons cw_Model_fail lk_Model_437 in_Model_fail sel_Model_fail ini_Model) rfl rfl rfl ⟨rfl, hd_Model_fail⟩ ⟨Nat.le_of_ble_eq_true rfl, Nat.le_of_ble_eq_true rfl⟩) (ypV hK hP hD hS hE hFc yo_12 rfl) rfl rfl hl.1 rfl (lv_room (Nat.le_of_ble_eq_true rfl)) d_Model_scan_144 ⟨Nat.le_of_ble_eq_true rfl, Nat.le_of_ble_eq_true rfl⟩) hS (fun q _ h => hFc q h) hFc (fun u9 t9 H locs ht hvm e9 hB hz1 hk1 hS => ?_)
            obtain ⟨hP, hD⟩ := y_aft hB ht hFc
            clear hFc hk1 hz1 hvm hB ht
            exact lb_Model_scan_147 l dC dI cI cJ cB adK adV adA h v n hx hb hml hown hts hK hE hA hr hlocks rc_35 (m_Model_scan_b102 n rc_35 f) Hrc_35 ih _ _ _ _ _ _ _ _ hm _ _ _ hP hD hS (lv_sub hl [0, 1, 2, 3, 4] rfl)
def m_Model_scan_b35 (n : Nat) : Nat → (Nat → Int32) → (Nat → Int64) → (Nat → Nat → Int32) → (Nat → Nat → Int64) → Int32 → Int32 → Int32 → Int32 → Option ((Nat → Int32) × (Nat → Int64) × (Nat → Nat → Int32) × (Nat → Nat → Int64) × Int32)
  | 0, _, _, _, _, _, _, _, _ => none
  | f + 1, i, j, a, b, v1, v2, v3, v4 => if v2 ≤ v4 then m_Model_scan_b647 n i j a b v1 v2 v3 else if ((i 75)) = ((0 : Int32)) then ck v4 4000 (ob1 (a 73 v4.toNatClampNeg : Int32) (fun x_4 => ob0 (m_Model_isGood n x_4) (fun r_6 => if r_6 = ((0 : Int32)) then om (m_Model_fail n i j a b (1 : Int32) v4) (fun i_22 j_23 a_24 b_25 r_26 => m_Model_scan_b647 n i_22 j_23 a_24 b_25 v1 v2 v3) else if x_4 = ((10 : Int32)) then m_Model_scan_b89 n (m_Model_scan_b35 n f) i j a b v1 v2 v3 v4 else if x_4 = ((32 : Int32)) then m_Model_scan_b89 n (m_Model_scan_b35 n f) i j a b v1 v2 v3 v4 else if x_4 = ((59 : Int32)) then m_Model_scan_b102 n (m_Model_scan_b35 n f) n i j a b v1 v2 v3 v4 else ob1 (v4 + 1 : Int32) (fun x_11 => if x_4 = ((91 : Int32)) then m_Model_scan_b198 n (m_Model_scan_b35 n f) i j a b v1 v2 v3 v4 x_4 x_11 else if x_4 = ((93 : Int32)) then m_Model_scan_b198 n (m_Model_scan_b35 n f) i j a b v1 v2 v3 v4 x_4 x_11 else ob0 (m_Model_isSingle n x_4) (fun r_15 => if r_15 = ((0 : Int32)) then m_Model_scan_b202 n (m_Model_scan_b35 n f) i j a b v1 v2 v3 v4 x_4 x_11 else if x_4 = ((45 : Int32)) then ob0 (m_Model_isAlone n i j a b v4 v2) (fun r_19 => if r_19 = ((0 : Int32)) then m_Model_scan_b202 n (m_Model_scan_b35 n f) i j a b v1 v2 v3 v4 x_4 x_11 else m_Model_scan_b198 n (m_Model_scan_b35 n f) i j a b v1 v2 v3 v4 x_4 x_11) else m_Model_scan_b198 n (m_Model_scan_b35 n f) i j a b v1 v2 v3 v4 x_4 x_11))))) else m_Model_scan_b647 n i j a b v1 v2 v3
set_option maxHeartbeats 4000000 in
set_option maxRecDepth 100000 in
theorem lb_Model_scan_35 (l : Launch) (dC : Nat → ClassId) (dI : Nat → Nat → Nat) (cI cJ cB : ClassId) (adK adV adA : Nat → Nat) (h : Nat) (v : Nat → Nat) (n : Nat) {p : Program} {e : Env} {s : State} {m : MethodId} {args : Array Value} {below : List Frame} {meth : Method} {c : Code} {A : Nat → Prop} (hx : p.tables.exec = Jvm.exec) (hb : c.code = b_Model_scan) (hml : c.maxLocals = 10) (hown : s.vm.findClass R_Model = some m.cls) (hts : ∀ w ∈ w_Model_scan, w.before args s = true) (hK : va_K (dC, dI) classes [(cI, .int), (cJ, .long), (cB, .byte)] s) (hE : tw_E adK adV adA A s s.heap) (hA : ∀ q : Nat, s.heap.size ≤ q → A q) (hr : meth.sig.returnType = (some .boolean)) (hlocks : meth.locks = false) {i2 : Nat → Int32} {j2 : Nat → Int64} {a2 : Nat → Nat → Int32} {b2 : Nat → Nat → Int64} {r2 : Int32} : ∀ (f : Nat) (i : Nat → Int32) (j : Nat → Int64) (a : Nat → Nat → Int32) (b : Nat → Nat → Int64) (v1 : Int32) (v2 : Int32) (v3 : Int32) (v4 : Int32), m_Model_scan_b35 n f i j a b v1 v2 v3 v4 = some (i2, j2, a2, b2, r2) → ∀ (H : Heap) (locs : List Loc) (ls : Array Slot), va_P (dC, dI) classes (MW cI cJ cB h v i j a b) H → va_D A (MW cI cJ cB h v i j a b) → va_S A s.heap H locs → lv_has ls 10 [(0, .ref h), (1, .int v1), (2, .int v2), (3, .int v3), (4, .int v4)] → W p l e ({ frames := 7, cells := 0, slots := 0, locals := 160 } : Room) s m args below meth c H locs 0 0 (MQ below (va_Qi (xR r2) (yB dC dI cI cJ cB h v i2 j2 a2 b2 A) A) args s 0 0 A) (F0 m 35 ls []) := by
  have htt : ∀ w ∈ tw_T, w.before _ s = true := fun w h => hts w (List.mem_cons_of_mem _ h)
  intro f
  induction f with
  | zero =>
    intro i j a b v1 v2 v3 v4 hm
    rw [m_Model_scan_b35] at hm
    cases hm
  | succ f ih =>
    intro i j a b v1 v2 v3 v4 hm H locs ls hP hD hS hl
    rw [m_Model_scan_b35] at hm
    refine lv_iload hx hb d_Model_scan_35 (lv_at hl 4 rfl) ?_
    refine lv_iload_n hx hb d_Model_scan_37 rfl (lv_at hl 2 rfl) ?_
    refine lv_icmp_ge (tgt := 647) hx hb d_Model_scan_38 (by decide) (fun c_1 => ?_) (fun c_1 => ?_)
    · replace hm := if_t c_1 hm
      exact lb_Model_scan_647 l dC dI cI cJ cB adK adV adA h v n hx hb hml hown hts hK hE hA hr hlocks _ _ _ _ _ _ _ hm _ _ _ hP hD hS (lv_sub hl [0, 1, 2, 3] rfl)
    · replace hm := if_f c_1 hm
      refine lv_aload_n hx hb d_Model_scan_41 rfl (lv_at hl 0 rfl) ?_
      refine va_get (D := (dC, dI)) (ci := 12) (v := .int (i 75)) (C := R_Model) (T := F_Model) (N := 127) hx hb htt iw_Model hown hK hP 0 yo_12 rfl 75 (Nat.le_of_ble_eq_true rfl) (htt _ lk_Model_416) (fun _ h9 => h9) yg_75 d_Model_scan_42 ?_
      refine lv_if_ne (tgt := 647) hx hb d_Model_scan_45 (by decide) (fun c_2 => ?_) (fun c_2 => ?_)
      · replace hm := if_f c_2 hm
        exact lb_Model_scan_647 l dC dI cI cJ cB adK adV adA h v n hx hb hml hown hts hK hE hA hr hlocks _ _ _ _ _ _ _ hm _ _ _ hP hD hS (lv_sub hl [0, 1, 2, 3] rfl)
      · replace hm := if_t c_2 hm
        refine lv_aload_n hx hb d_Model_scan_48 rfl (lv_at hl 0 rfl) ?_
        refine va_get (D := (dC, dI)) (ci := 12) (v := .ref ((v 73))) (C := R_Model) (T := F_Model) (N := 127) hx hb htt iw_Model hown hK hP 0 yo_12 rfl 73 (Nat.le_of_ble_eq_true rfl) (htt _ lk_Model_261) (fun _ h9 => h9) yg_73 d_Model_scan_49 ?_
        refine lv_iload hx hb d_Model_scan_52 (lv_at hl 4 rfl) ?_
        obtain ⟨h_3, hm⟩ := ck_some hm
        refine va_bald hx hb hK hP 49 2 ya_73 rfl h_3 d_Model_scan_54 ?_
        refine lv_topi (fun x_4 ex_4 => ?_)
        replace hm := ob1_at ex_4 hm
        refine lv_istore (lv' := [(5, .int x_4), (0, .ref h), (1, .int v1), (2, .int v2), (3, .int v3), (4, .int v4)]) hx hb d_Model_scan_55 hl (by decide) rfl (fun ls hl => ?_)
        refine lv_iload hx hb d_Model_scan_57 (lv_at hl 0 rfl) ?_
        obtain ⟨r_6, h_5, hm⟩ := ob0_some hm
        have hFc := x_free0 hS hA
        refine va_calli (va_runS (As := [.int x_4]) (rest := []) ⟨hx, hb, hml, hown, hts⟩ (x_Model_isGood l H.size n h_5) (va_cwS 1 hts (tw_GS tw_cons cw_Model_isGood lk_Model_434 st_Model_isGood ini_Model) rfl rfl rfl hd_Model_isGood ⟨Nat.le_of_ble_eq_true rfl, Nat.le_of_ble_eq_true rfl⟩) xpS0 rfl rfl hl.1 rfl (lv_room (Nat.le_of_ble_eq_true rfl)) d_Model_scan_59 ⟨Nat.le_of_ble_eq_true rfl, Nat.le_of_ble_eq_true rfl⟩) hS (fun q _ h => hFc q h) hFc (fun r9 u9 t9 H locs ht hvm e9 hB hz1 hk1 hS => ?_)
        have e9 : r_6 = r9 := e9
        subst e9
        replace hP := x_keep hP hk1
        clear hFc hk1 hz1 hvm hB ht
        refine lv_if_ne (tgt := 75) hx hb d_Model_scan_62 (by decide) (fun c_7 => ?_) (fun c_7 => ?_)
        · replace hm := if_f c_7 hm
          refine lv_iload hx hb d_Model_scan_75 (lv_at hl 0 rfl) ?_
          refine lv_bipush (v := 10) hx hb d_Model_scan_77 (by decide) ?_
          refine lv_icmp_eq (tgt := 89) hx hb d_Model_scan_79 (by decide) (fun c_8 => ?_) (fun c_8 => ?_)
          · replace hm := if_t c_8 hm
            exact lb_Model_scan_89 l dC dI cI cJ cB adK adV adA h v n hx hb hml hown hts hK hE hA hr hlocks (m_Model_scan_b35 n f) ih _ _ _ _ _ _ _ _ hm _ _ _ hP hD hS (lv_sub hl [1, 2, 3, 4, 5] rfl)
          · replace hm := if_f c_8 hm
            refine lv_iload hx hb d_Model_scan_82 (lv_at hl 0 rfl) ?_
            refine lv_bipush (v := 32) hx hb d_Model_scan_84 (by decide) ?_
            refine lv_icmp_ne (tgt := 95) hx hb d_Model_scan_86 (by decide) (fun c_9 => ?_) (fun c_9 => ?_)
            · replace hm := if_f c_9 hm
              refine lv_iload hx hb d_Model_scan_95 (lv_at hl 0 rfl) ?_
              refine lv_bipush (v := 59) hx hb d_Model_scan_97 (by decide) ?_
              refine lv_icmp_ne (tgt := 153) hx hb d_Model_scan_99 (by decide) (fun c_10 => ?_) (fun c_10 => ?_)
              · replace hm := if_f c_10 hm
                refine lv_iload hx hb d_Model_scan_153 (lv_at hl 5 rfl) ?_
                refine lv_iconst (v := 1) hx hb d_Model_scan_155 (by decide) ?_
                refine lv_iadd hx hb d_Model_scan_156 ?_
                refine lv_topi (fun x_11 ex_11 => ?_)
                replace hm := ob1_at ex_11 hm
                refine lv_istore (lv' := [(6, .int x_11), (5, .int x_4), (0, .ref h), (1, .int v1), (2, .int v2), (3, .int v3), (4, .int v4)]) hx hb d_Model_scan_157 hl (by decide) rfl (fun ls hl => ?_)
                refine lv_iload hx hb d_Model_scan_159 (lv_at hl 1 rfl) ?_
                refine lv_bipush (v := 91) hx hb d_Model_scan_161 (by decide) ?_
                refine lv_icmp_eq (tgt := 198) hx hb d_Model_scan_163 (by decide) (fun c_12 => ?_) (fun c_12 => ?_)
                · replace hm := if_t c_12 hm
                  exact lb_Model_scan_198 l dC dI cI cJ cB adK adV adA h v n hx hb hml hown hts hK hE hA hr hlocks (m_Model_scan_b35 n f) ih _ _ _ _ _ _ _ _ _ _ hm _ _ _ hP hD hS (lv_sub hl [2, 3, 4, 5, 6, 1, 0] rfl)
                · replace hm := if_f c_12 hm
                  refine lv_iload hx hb d_Model_scan_166 (lv_at hl 1 rfl) ?_
                  refine lv_bipush (v := 93) hx hb d_Model_scan_168 (by decide) ?_
                  refine lv_icmp_eq (tgt := 198) hx hb d_Model_scan_170 (by decide) (fun c_13 => ?_) (fun c_13 => ?_)
                  · replace hm := if_t c_13 hm
                    exact lb_Model_scan_198 l dC dI cI cJ cB adK adV adA h v n hx hb hml hown hts hK hE hA hr hlocks (m_Model_scan_b35 n f) ih _ _ _ _ _ _ _ _ _ _ hm _ _ _ hP hD hS (lv_sub hl [2, 3, 4, 5, 6, 1, 0] rfl)
                  · replace hm := if_f c_13 hm
                    refine lv_iload hx hb d_Model_scan_173 (lv_at hl 1 rfl) ?_
                    obtain ⟨r_15, h_14, hm⟩ := ob0_some hm
                    have hFc := x_free0 hS hA
                    refine va_calli (va_runS (As := [.int x_4]) (rest := []) ⟨hx, hb, hml, hown, hts⟩ (x_Model_isSingle l H.size n h_14) (va_cwS 1 hts (tw_GS tw_cons cw_Model_isSingle lk_Model_441 st_Model_isSingle ini_Model) rfl rfl rfl hd_Model_isSingle ⟨Nat.le_of_ble_eq_true rfl, Nat.le_of_ble_eq_true rfl⟩) xpS0 rfl rfl hl.1 rfl (lv_room (Nat.le_of_ble_eq_true rfl)) d_Model_scan_175 ⟨Nat.le_of_ble_eq_true rfl, Nat.le_of_ble_eq_true rfl⟩) hS (fun q _ h => hFc q h) hFc (fun r9 u9 t9 H locs ht hvm e9 hB hz1 hk1 hS => ?_)
                    have e9 : r_15 = r9 := e9
                    subst e9
                    replace hP := x_keep hP hk1
                    clear hFc hk1 hz1 hvm hB ht
                    refine lv_if_eq (tgt := 202) hx hb d_Model_scan_178 (by decide) (fun c_16 => ?_) (fun c_16 => ?_)
                    · replace hm := if_t c_16 hm
                      exact lb_Model_scan_202 l dC dI cI cJ cB adK adV adA h v n hx hb hml hown hts hK hE hA hr hlocks (m_Model_scan_b35 n f) ih _ _ _ _ _ _ _ _ _ _ hm _ _ _ hP hD hS (lv_sub hl [2, 3, 4, 5, 6, 1, 0] rfl)
                    · replace hm := if_f c_16 hm
                      refine lv_iload hx hb d_Model_scan_181 (lv_at hl 1 rfl) ?_
                      refine lv_bipush (v := 45) hx hb d_Model_scan_183 (by decide) ?_
                      refine lv_icmp_ne (tgt := 198) hx hb d_Model_scan_185 (by decide) (fun c_17 => ?_) (fun c_17 => ?_)
                      · replace hm := if_f c_17 hm
                        exact lb_Model_scan_198 l dC dI cI cJ cB adK adV adA h v n hx hb hml hown hts hK hE hA hr hlocks (m_Model_scan_b35 n f) ih _ _ _ _ _ _ _ _ _ _ hm _ _ _ hP hD hS (lv_sub hl [2, 3, 4, 5, 6, 1, 0] rfl)
                      · replace hm := if_t c_17 hm
                        refine lv_aload_n hx hb d_Model_scan_188 rfl (lv_at hl 2 rfl) ?_
                        refine lv_iload hx hb d_Model_scan_189 (lv_at hl 6 rfl) ?_
                        refine lv_iload_n hx hb d_Model_scan_191 rfl (lv_at hl 4 rfl) ?_
                        obtain ⟨r_19, h_18, hm⟩ := ob0_some hm
                        have hFc := x_free0 hS hA
                        refine va_calli (va_runV (As := [.int v4, .int v2]) (rest := []) ⟨hx, hb, hml, hown, hts⟩ (x_Model_isAlone l dC dI cI cJ cB adK adV adA h v H.size n h_18) (cwV 2 hts (tw_GV tw_cons cw_Model_isAlone lk_Model_444 in_Model_isAlone sel_Model_isAlone ini_Model) rfl rfl rfl ⟨rfl, hd_Model_isAlone⟩ ⟨Nat.le_of_ble_eq_true rfl, Nat.le_of_ble_eq_true rfl⟩) (ypVr hK hP hS hE hFc yo_12 rfl) rfl rfl hl.1 rfl (lv_room (Nat.le_of_ble_eq_true rfl)) d_Model_scan_192 ⟨Nat.le_of_ble_eq_true rfl, Nat.le_of_ble_eq_true rfl⟩) hS (fun q _ h => hFc q h) hFc (fun r9 u9 t9 H locs ht hvm e9 hB hz1 hk1 hS => ?_)
                        have e9 : r_19 = r9 := e9
                        subst e9
                        replace hP := x_keep hP hk1
                        clear hFc hk1 hz1 hvm hB ht
                        refine lv_if_eq (tgt := 202) hx hb d_Model_scan_195 (by decide) (fun c_20 => ?_) (fun c_20 => ?_)
                        · replace hm := if_t c_20 hm
                          exact lb_Model_scan_202 l dC dI cI cJ cB adK adV adA h v n hx hb hml hown hts hK hE hA hr hlocks (m_Model_scan_b35 n f) ih _ _ _ _ _ _ _ _ _ _ hm _ _ _ hP hD hS (lv_sub hl [2, 3, 4, 5, 6, 1, 0] rfl)
                        · replace hm := if_f c_20 hm
                          exact lb_Model_scan_198 l dC dI cI cJ cB adK adV adA h v n hx hb hml hown hts hK hE hA hr hlocks (m_Model_scan_b35 n f) ih _ _ _ _ _ _ _ _ _ _ hm _ _ _ hP hD hS (lv_sub hl [2, 3, 4, 5, 6, 1, 0] rfl)
              · replace hm := if_t c_10 hm
                exact lb_Model_scan_102 l dC dI cI cJ cB adK adV adA h v n hx hb hml hown hts hK hE hA hr hlocks (m_Model_scan_b35 n f) ih n _ _ _ _ _ _ _ _ hm _ _ _ hP hD hS (lv_sub hl [1, 2, 3, 4, 5] rfl)
            · replace hm := if_t c_9 hm
              exact lb_Model_scan_89 l dC dI cI cJ cB adK adV adA h v n hx hb hml hown hts hK hE hA hr hlocks (m_Model_scan_b35 n f) ih _ _ _ _ _ _ _ _ hm _ _ _ hP hD hS (lv_sub hl [1, 2, 3, 4, 5] rfl)
        · replace hm := if_t c_7 hm
          refine lv_aload_n hx hb d_Model_scan_65 rfl (lv_at hl 1 rfl) ?_
          refine lv_iconst (v := 1) hx hb d_Model_scan_66 (by decide) ?_
          refine lv_iload hx hb d_Model_scan_67 (lv_at hl 5 rfl) ?_
          obtain ⟨i_22, j_23, a_24, b_25, r_26, h_21, hm⟩ := om_some hm
          have hFc := x_free hD hS hA
          refine va_callv (va_runV (As := [.int 1, .int v4]) (rest := []) ⟨hx, hb, hml, hown, hts⟩ (x_Model_fail l dC dI cI cJ cB adK adV adA h v H.size n h_21) (cwV 2 hts (tw_GV tw_cons cw_Model_fail lk_Model_437 in_Model_fail sel_Model_fail ini_Model) rfl rfl rfl ⟨rfl, hd_Model_fail⟩ ⟨Nat.le_of_ble_eq_true rfl, Nat.le_of_ble_eq_true rfl⟩) (ypV hK hP hD hS hE hFc yo_12 rfl) rfl rfl hl.1 rfl (lv_room (Nat.le_of_ble_eq_true rfl)) d_Model_scan_69 ⟨Nat.le_of_ble_eq_true rfl, Nat.le_of_ble_eq_true rfl⟩) hS (fun q _ h => hFc q h) hFc (fun u9 t9 H locs ht hvm e9 hB hz1 hk1 hS => ?_)
          obtain ⟨hP, hD⟩ := y_aft hB ht hFc
          clear hFc hk1 hz1 hvm hB ht
          refine lv_goto (tgt := 647) hx hb d_Model_scan_72 (by decide) ?_
          exact lb_Model_scan_647 l dC dI cI cJ cB adK adV adA h v n hx hb hml hown hts hK hE hA hr hlocks _ _ _ _ _ _ _ hm _ _ _ hP hD hS (lv_sub hl [1, 2, 3, 4] rfl)
def m_Model_scan (n : Nat) (i : Nat → Int32) (j : Nat → Int64) (a : Nat → Nat → Int32) (b : Nat → Nat → Int64) (v1 : Int32) : Option ((Nat → Int32) × (Nat → Int64) × (Nat → Nat → Int32) × (Nat → Nat → Int64) × Int32) := ob1 (i 74 : Int32) (fun x_1 => ob1 (upd i 75 0 : Nat → Int32) (fun i_2 => ob1 (upd i_2 76 ((-1)) : Nat → Int32) (fun i_3 => ob1 (upd i_3 81 0 : Nat → Int32) (fun i_4 => ob1 (upd i_4 84 0 : Nat → Int32) (fun i_5 => ob1 (upd i_5 85 0 : Nat → Int32) (fun i_6 => m_Model_scan_b35 n n i_6 j a b v1 x_1 (0 : Int32) (0 : Int32)))))))
set_option maxHeartbeats 4000000 in
set_option maxRecDepth 100000 in
theorem x_Model_scan (l : Launch) (dC : Nat → ClassId) (dI : Nat → Nat → Nat) (cI cJ cB : ClassId) (adK adV adA : Nat → Nat) (h : Nat) (v : Nat → Nat) (sz : Nat) (n : Nat) {i : Nat → Int32} {j : Nat → Int64} {a : Nat → Nat → Int32} {b : Nat → Nat → Int64} {v1 : Int32} {i2 : Nat → Int32} {j2 : Nat → Int64} {a2 : Nat → Nat → Int32} {b2 : Nat → Nat → Int64} {r2 : Int32} (hm : m_Model_scan n i j a b v1 = some (i2, j2, a2, b2, r2)) : Met l y_Model_scan w_Model_scan ({ frames := 7, cells := 0, slots := 0, locals := 160 } : Room) (va_Pc [.ref h, .int v1] (yE dC dI cI cJ cB adK adV adA h v i j a b sz)) (va_Qi (xR r2) (yB dC dI cI cJ cB h v i2 j2 a2 b2 (va_A (MW cI cJ cB h v i j a b) sz)) (va_A (MW cI cJ cB h v i j a b) sz)) 0 0 ((va_A (MW cI cJ cB h v i j a b) sz)) := by
  refine Met.ofW (cc := b_Model_scan) (maxL := 10) (ret := (some .boolean)) (by decide) rfl ?_
  intro p e s m args below meth c s₁ B hml hv
  obtain ⟨rfl, hsz, hP, hK, hE, hD0⟩ := hv
  have hx := B.exec
  have hb := B.bytes
  have hr := B.returns
  have hts := atoms_spec (ws := w_Model_scan) B.pre
  have htt : ∀ w ∈ tw_T, w.before _ s = true := fun w h => hts w (List.mem_cons_of_mem _ h)
  have hown : s.vm.findClass R_Model = some m.cls := findClass_of_methodNamed B.named
  have hlocks := B.notSynchronized
  subst hsz
  have hD := hD0.self (sz := s.heap.size)
  generalize hAe : (va_A (MW cI cJ cB h v i j a b) s.heap.size) = A at hD hE ⊢
  have hA : ∀ q : Nat, s.heap.size ≤ q → A q := fun q h => by rw [← hAe]; exact Or.inr h
  have hS : va_S A s.heap s.heap [] := va_S.rf
  have hl := lv_entry ([.ref h, .int v1]) (n := 10) (Nat.le_of_ble_eq_true rfl)
  rw [lg_entry_eq]
  generalize (lg_sl ([.ref h, .int v1]) ++ List.replicate (10 - (lg_sl ([.ref h, .int v1])).length) Slot.unset).toArray = ls at hl ⊢
  have hl : lv_has ls 10 [(0, .ref h), (1, .int v1)] := hl
  rw [m_Model_scan] at hm
  refine lv_aload_n hx hb d_Model_scan_0 rfl (lv_at hl 0 rfl) ?_
  refine va_get (D := (dC, dI)) (ci := 12) (v := .int (i 74)) (C := R_Model) (T := F_Model) (N := 127) hx hb htt iw_Model hown hK hP 0 yo_12 rfl 74 (Nat.le_of_ble_eq_true rfl) (htt _ lk_Model_409) (fun _ h9 => h9) yg_74 d_Model_scan_1 ?_
  refine lv_topi (fun x_1 ex_1 => ?_)
  replace hm := ob1_at ex_1 hm
  refine lv_istore_n (lv' := [(2, .int x_1), (0, .ref h), (1, .int v1)]) hx hb d_Model_scan_4 rfl hl (by decide) rfl (fun ls hl => ?_)
  refine lv_iconst (v := 0) hx hb d_Model_scan_5 (by decide) ?_
  refine lv_istore_n (lv' := [(3, .int 0), (2, .int x_1), (0, .ref h), (1, .int v1)]) hx hb d_Model_scan_6 rfl hl (by decide) rfl (fun ls hl => ?_)
  refine lv_iconst (v := 0) hx hb d_Model_scan_7 (by decide) ?_
  refine lv_istore (lv' := [(4, .int 0), (3, .int 0), (2, .int x_1), (0, .ref h), (1, .int v1)]) hx hb d_Model_scan_8 hl (by decide) rfl (fun ls hl => ?_)
  refine lv_aload_n hx hb d_Model_scan_10 rfl (lv_at hl 3 rfl) ?_
  refine lv_iconst (v := 0) hx hb d_Model_scan_11 (by decide) ?_
  refine va_put (D := (dC, dI)) (ci := 12) (v := .int 0) (ty := .int) (C := R_Model) (T := F_Model) (N := 127) hx hb htt iw_Model t_Model t_Model_ok n_Model hown hK hP hD hS 0 yo_12 rfl 75 (Nat.le_of_ble_eq_true rfl) (htt _ lk_Model_416) (fun _ h9 => h9) rfl (by decide +kernel) rfl rfl yl_75 d_Model_scan_12 (fun H locs hP hD hS => ?_)
  obtain ⟨i_2, ei_2⟩ : ∃ y9 : Nat → Int32, y9 = upd i 75 0 := ⟨_, rfl⟩
  replace hm := ob1_at ei_2 hm
  obtain ⟨hP, hD⟩ := yw_75 ei_2 hP hD
  refine lv_aload_n hx hb d_Model_scan_15 rfl (lv_at hl 3 rfl) ?_
  refine lv_iconst (v := -1) hx hb d_Model_scan_16 (by decide) ?_
  refine va_put (D := (dC, dI)) (ci := 12) (v := .int ((-1))) (ty := .int) (C := R_Model) (T := F_Model) (N := 127) hx hb htt iw_Model t_Model t_Model_ok n_Model hown hK hP hD hS 0 yo_12 rfl 76 (Nat.le_of_ble_eq_true rfl) (htt _ lk_Model_264) (fun _ h9 => h9) rfl (by decide +kernel) rfl rfl yl_76 d_Model_scan_17 (fun H locs hP hD hS => ?_)
  obtain ⟨i_3, ei_3⟩ : ∃ y9 : Nat → Int32, y9 = upd i_2 76 ((-1)) := ⟨_, rfl⟩
  replace hm := ob1_at ei_3 hm
  obtain ⟨hP, hD⟩ := yw_76 ei_3 hP hD
  refine lv_aload_n hx hb d_Model_scan_20 rfl (lv_at hl 3 rfl) ?_
  refine lv_iconst (v := 0) hx hb d_Model_scan_21 (by decide) ?_
  refine va_put (D := (dC, dI)) (ci := 12) (v := .int 0) (ty := .int) (C := R_Model) (T := F_Model) (N := 127) hx hb htt iw_Model t_Model t_Model_ok n_Model hown hK hP hD hS 0 yo_12 rfl 81 (Nat.le_of_ble_eq_true rfl) (htt _ lk_Model_425) (fun _ h9 => h9) rfl (by decide +kernel) rfl rfl yl_81 d_Model_scan_22 (fun H locs hP hD hS => ?_)
  obtain ⟨i_4, ei_4⟩ : ∃ y9 : Nat → Int32, y9 = upd i_3 81 0 := ⟨_, rfl⟩
  replace hm := ob1_at ei_4 hm
  obtain ⟨hP, hD⟩ := yw_81 ei_4 hP hD
  refine lv_aload_n hx hb d_Model_scan_25 rfl (lv_at hl 3 rfl) ?_
  refine lv_iconst (v := 0) hx hb d_Model_scan_26 (by decide) ?_
  refine va_put (D := (dC, dI)) (ci := 12) (v := .int 0) (ty := .int) (C := R_Model) (T := F_Model) (N := 127) hx hb htt iw_Model t_Model t_Model_ok n_Model hown hK hP hD hS 0 yo_12 rfl 84 (Nat.le_of_ble_eq_true rfl) (htt _ lk_Model_428) (fun _ h9 => h9) rfl (by decide +kernel) rfl rfl yl_84 d_Model_scan_27 (fun H locs hP hD hS => ?_)
  obtain ⟨i_5, ei_5⟩ : ∃ y9 : Nat → Int32, y9 = upd i_4 84 0 := ⟨_, rfl⟩
  replace hm := ob1_at ei_5 hm
  obtain ⟨hP, hD⟩ := yw_84 ei_5 hP hD
  refine lv_aload_n hx hb d_Model_scan_30 rfl (lv_at hl 3 rfl) ?_
  refine lv_iconst (v := 0) hx hb d_Model_scan_31 (by decide) ?_
  refine va_put (D := (dC, dI)) (ci := 12) (v := .int 0) (ty := .int) (C := R_Model) (T := F_Model) (N := 127) hx hb htt iw_Model t_Model t_Model_ok n_Model hown hK hP hD hS 0 yo_12 rfl 85 (Nat.le_of_ble_eq_true rfl) (htt _ lk_Model_431) (fun _ h9 => h9) rfl (by decide +kernel) rfl rfl yl_85 d_Model_scan_32 (fun H locs hP hD hS => ?_)
  obtain ⟨i_6, ei_6⟩ : ∃ y9 : Nat → Int32, y9 = upd i_5 85 0 := ⟨_, rfl⟩
  replace hm := ob1_at ei_6 hm
  obtain ⟨hP, hD⟩ := yw_85 ei_6 hP hD
  exact lb_Model_scan_35 l dC dI cI cJ cB adK adV adA h v n hx hb hml hown hts hK hE hA hr hlocks n _ _ _ _ _ _ _ _ hm _ _ _ hP hD hS (lv_sub hl [3, 4, 2, 1, 0] rfl)
