theorem hd_Model_dotAt : y_Model_dotAt.cls ≠ "java/lang/invoke/MethodHandle" ∧ y_Model_dotAt.cls ≠ "java/lang/invoke/VarHandle" ∧ (parseMethodDescriptor y_Model_dotAt.desc).map (fun d => d.parameters.length) = some 2 := by decide +kernel
theorem d_Model_isName_0 : decode b_Model_isName 0 = .ok (.aload_n 0, 1) := by decide +kernel
theorem d_Model_isName_1 : decode b_Model_isName 1 = .ok (.getfield 67, 3) := by decide +kernel
theorem d_Model_isName_4 : decode b_Model_isName 4 = .ok (.aload_n 0, 1) := by decide +kernel
theorem d_Model_isName_5 : decode b_Model_isName 5 = .ok (.getfield 15, 3) := by decide +kernel
theorem d_Model_isName_8 : decode b_Model_isName 8 = .ok (.iload_n 1, 1) := by decide +kernel
theorem d_Model_isName_9 : decode b_Model_isName 9 = .ok (.iaload, 1) := by decide +kernel
theorem d_Model_isName_10 : decode b_Model_isName 10 = .ok (.baload, 1) := by decide +kernel
theorem d_Model_isName_11 : decode b_Model_isName 11 = .ok (.istore_n 2, 1) := by decide +kernel
theorem d_Model_isName_12 : decode b_Model_isName 12 = .ok (.aload_n 0, 1) := by decide +kernel
theorem d_Model_isName_13 : decode b_Model_isName 13 = .ok (.getfield 22, 3) := by decide +kernel
theorem d_Model_isName_16 : decode b_Model_isName 16 = .ok (.iload_n 1, 1) := by decide +kernel
theorem d_Model_isName_17 : decode b_Model_isName 17 = .ok (.iaload, 1) := by decide +kernel
theorem d_Model_isName_18 : decode b_Model_isName 18 = .ok (.iconst 1, 1) := by decide +kernel
theorem d_Model_isName_19 : decode b_Model_isName 19 = .ok (.if_icmp .ne 14, 3) := by decide +kernel
theorem d_Model_isName_22 : decode b_Model_isName 22 = .ok (.iload_n 2, 1) := by decide +kernel
theorem d_Model_isName_23 : decode b_Model_isName 23 = .ok (.invokestatic 441, 3) := by decide +kernel
theorem d_Model_isName_26 : decode b_Model_isName 26 = .ok (.ifCond .eq 7, 3) := by decide +kernel
theorem d_Model_isName_29 : decode b_Model_isName 29 = .ok (.iconst 1, 1) := by decide +kernel
theorem d_Model_isName_30 : decode b_Model_isName 30 = .ok (.goto 4, 3) := by decide +kernel
theorem d_Model_isName_33 : decode b_Model_isName 33 = .ok (.iconst 0, 1) := by decide +kernel
theorem d_Model_isName_34 : decode b_Model_isName 34 = .ok (.istore_n 3, 1) := by decide +kernel
theorem d_Model_isName_35 : decode b_Model_isName 35 = .ok (.iload_n 3, 1) := by decide +kernel
theorem d_Model_isName_36 : decode b_Model_isName 36 = .ok (.ifCond .ne 50, 3) := by decide +kernel
theorem d_Model_isName_39 : decode b_Model_isName 39 = .ok (.iload_n 2, 1) := by decide +kernel
theorem d_Model_isName_40 : decode b_Model_isName 40 = .ok (.bipush 34, 2) := by decide +kernel
theorem d_Model_isName_42 : decode b_Model_isName 42 = .ok (.if_icmp .eq 44, 3) := by decide +kernel
theorem d_Model_isName_45 : decode b_Model_isName 45 = .ok (.iload_n 2, 1) := by decide +kernel
theorem d_Model_isName_46 : decode b_Model_isName 46 = .ok (.bipush 58, 2) := by decide +kernel
theorem d_Model_isName_48 : decode b_Model_isName 48 = .ok (.if_icmp .eq 38, 3) := by decide +kernel
theorem d_Model_isName_51 : decode b_Model_isName 51 = .ok (.aload_n 0, 1) := by decide +kernel
theorem d_Model_isName_52 : decode b_Model_isName 52 = .ok (.iload_n 1, 1) := by decide +kernel
theorem d_Model_isName_53 : decode b_Model_isName 53 = .ok (.ldc_w 471, 3) := by decide +kernel
theorem d_Model_isName_56 : decode b_Model_isName 56 = .ok (.invokevirtual 473, 3) := by decide +kernel
theorem d_Model_isName_59 : decode b_Model_isName 59 = .ok (.ifCond .ne 27, 3) := by decide +kernel
theorem d_Model_isName_62 : decode b_Model_isName 62 = .ok (.aload_n 0, 1) := by decide +kernel
theorem d_Model_isName_63 : decode b_Model_isName 63 = .ok (.iload_n 1, 1) := by decide +kernel
theorem d_Model_isName_64 : decode b_Model_isName 64 = .ok (.ldc_w 477, 3) := by decide +kernel
theorem d_Model_isName_67 : decode b_Model_isName 67 = .ok (.invokevirtual 473, 3) := by decide +kernel
theorem d_Model_isName_70 : decode b_Model_isName 70 = .ok (.ifCond .ne 16, 3) := by decide +kernel
theorem d_Model_isName_73 : decode b_Model_isName 73 = .ok (.aload_n 0, 1) := by decide +kernel
theorem d_Model_isName_74 : decode b_Model_isName 74 = .ok (.iload_n 1, 1) := by decide +kernel
theorem d_Model_isName_75 : decode b_Model_isName 75 = .ok (.invokevirtual 479, 3) := by decide +kernel
theorem d_Model_isName_78 : decode b_Model_isName 78 = .ok (.iconst (-1), 1) := by decide +kernel
theorem d_Model_isName_79 : decode b_Model_isName 79 = .ok (.if_icmp .ne 7, 3) := by decide +kernel
theorem d_Model_isName_82 : decode b_Model_isName 82 = .ok (.iconst 1, 1) := by decide +kernel
theorem d_Model_isName_83 : decode b_Model_isName 83 = .ok (.goto 4, 3) := by decide +kernel
theorem d_Model_isName_86 : decode b_Model_isName 86 = .ok (.iconst 0, 1) := by decide +kernel
theorem d_Model_isName_87 : decode b_Model_isName 87 = .ok (.ireturn, 1) := by decide +kernel
theorem lk_Model_479 : Cond.methodLink "TurtleWorldModel" 479 ⟨"TurtleWorldModel", "primitive", "(I)I"⟩ ∈ tw_T := tw_i10 66 (by decide +kernel) (by decide +kernel)
theorem hd_Model_primitive : y_Model_primitive.cls ≠ "java/lang/invoke/MethodHandle" ∧ y_Model_primitive.cls ≠ "java/lang/invoke/VarHandle" ∧ (parseMethodDescriptor y_Model_primitive.desc).map (fun d => d.parameters.length) = some 1 := by decide +kernel
theorem in_Model_primitive : Cond.instanceMethod ⟨"TurtleWorldModel", "primitive", "(I)I"⟩ ∈ tw_T := tw_i10 68 (by decide +kernel) (by decide +kernel)
theorem sel_Model_primitive : Cond.selects "TurtleWorldModel" ⟨"TurtleWorldModel", "primitive", "(I)I"⟩ ⟨"TurtleWorldModel", "primitive", "(I)I"⟩ ∈ tw_T := tw_inS 97 (by decide +kernel) (by decide +kernel)
theorem lk_Model_441 : Cond.methodLink "TurtleWorldModel" 441 ⟨"TurtleWorldModel", "isSingle", "(I)Z"⟩ ∈ tw_T := tw_i10 4 (by decide +kernel) (by decide +kernel)
theorem hd_Model_isSingle : y_Model_isSingle.cls ≠ "java/lang/invoke/MethodHandle" ∧ y_Model_isSingle.cls ≠ "java/lang/invoke/VarHandle" ∧ (parseMethodDescriptor y_Model_isSingle.desc).map (fun d => d.parameters.length) = some 1 := by decide +kernel
theorem st_Model_isSingle : Cond.static ⟨"TurtleWorldModel", "isSingle", "(I)Z"⟩ ∈ tw_T := tw_i10 5 (by decide +kernel) (by decide +kernel)
theorem hd_Model_sameWord : y_Model_sameWord.cls ≠ "java/lang/invoke/MethodHandle" ∧ y_Model_sameWord.cls ≠ "java/lang/invoke/VarHandle" ∧ (parseMethodDescriptor y_Model_sameWord.desc).map (fun d => d.parameters.length) = some 2 := by decide +kernel
theorem d_Model_input_0 : decode b_Model_input 0 = .ok (.aload_n 0, 1) := by decide +kernel
theorem d_Model_input_1 : decode b_Model_input 1 = .ok (.getfield 482, 3) := by decide +kernel
theorem d_Model_input_4 : decode b_Model_input 4 = .ok (.istore_n 3, 1) := by decide +kernel
theorem d_Model_input_5 : decode b_Model_input 5 = .ok (.aload_n 0, 1) := by decide +kernel
theorem d_Model_input_6 : decode b_Model_input 6 = .ok (.getfield 22, 3) := by decide +kernel
theorem d_Model_input_9 : decode b_Model_input 9 = .ok (.iload_n 2, 1) := by decide +kernel
theorem d_Model_input_10 : decode b_Model_input 10 = .ok (.iaload, 1) := by decide +kernel
theorem d_Model_input_11 : decode b_Model_input 11 = .ok (.iconst 1, 1) := by decide +kernel
theorem d_Model_input_12 : decode b_Model_input 12 = .ok (.if_icmp .eq 13, 3) := by decide +kernel
theorem d_Model_input_15 : decode b_Model_input 15 = .ok (.aload_n 0, 1) := by decide +kernel
theorem d_Model_input_16 : decode b_Model_input 16 = .ok (.getfield 288, 3) := by decide +kernel
theorem d_Model_input_19 : decode b_Model_input 19 = .ok (.iload_n 3, 1) := by decide +kernel
theorem d_Model_input_20 : decode b_Model_input 20 = .ok (.iaload, 1) := by decide +kernel
theorem d_Model_input_21 : decode b_Model_input 21 = .ok (.iconst 5, 1) := by decide +kernel
theorem d_Model_input_22 : decode b_Model_input 22 = .ok (.if_icmp .ne 7, 3) := by decide +kernel
theorem d_Model_input_25 : decode b_Model_input 25 = .ok (.iconst 1, 1) := by decide +kernel
theorem d_Model_input_26 : decode b_Model_input 26 = .ok (.goto 4, 3) := by decide +kernel
theorem d_Model_input_29 : decode b_Model_input 29 = .ok (.iconst 0, 1) := by decide +kernel
theorem d_Model_input_30 : decode b_Model_input 30 = .ok (.istore 4, 2) := by decide +kernel
theorem d_Model_input_32 : decode b_Model_input 32 = .ok (.iload 4, 2) := by decide +kernel
theorem d_Model_input_34 : decode b_Model_input 34 = .ok (.ifCond .eq 7, 3) := by decide +kernel
theorem d_Model_input_37 : decode b_Model_input 37 = .ok (.iconst 0, 1) := by decide +kernel
theorem d_Model_input_38 : decode b_Model_input 38 = .ok (.goto 23, 3) := by decide +kernel
theorem d_Model_input_41 : decode b_Model_input 41 = .ok (.aload_n 0, 1) := by decide +kernel
theorem d_Model_input_42 : decode b_Model_input 42 = .ok (.aload_n 0, 1) := by decide +kernel
theorem d_Model_input_43 : decode b_Model_input 43 = .ok (.getfield 15, 3) := by decide +kernel
theorem d_Model_input_46 : decode b_Model_input 46 = .ok (.iload_n 2, 1) := by decide +kernel
theorem d_Model_input_47 : decode b_Model_input 47 = .ok (.iaload, 1) := by decide +kernel
theorem d_Model_input_48 : decode b_Model_input 48 = .ok (.iconst 1, 1) := by decide +kernel
theorem d_Model_input_49 : decode b_Model_input 49 = .ok (.iadd, 1) := by decide +kernel
theorem d_Model_input_50 : decode b_Model_input 50 = .ok (.aload_n 0, 1) := by decide +kernel
theorem d_Model_input_51 : decode b_Model_input 51 = .ok (.getfield 22, 3) := by decide +kernel
theorem d_Model_input_54 : decode b_Model_input 54 = .ok (.iload_n 2, 1) := by decide +kernel
theorem d_Model_input_55 : decode b_Model_input 55 = .ok (.iaload, 1) := by decide +kernel
theorem d_Model_input_56 : decode b_Model_input 56 = .ok (.iconst 1, 1) := by decide +kernel
theorem d_Model_input_57 : decode b_Model_input 57 = .ok (.isub, 1) := by decide +kernel
theorem d_Model_input_58 : decode b_Model_input 58 = .ok (.invokevirtual 454, 3) := by decide +kernel
theorem d_Model_input_61 : decode b_Model_input 61 = .ok (.istore 5, 2) := by decide +kernel
theorem d_Model_input_63 : decode b_Model_input 63 = .ok (.iconst 0, 1) := by decide +kernel
theorem d_Model_input_64 : decode b_Model_input 64 = .ok (.istore 6, 2) := by decide +kernel
theorem d_Model_input_66 : decode b_Model_input 66 = .ok (.iload 6, 2) := by decide +kernel
theorem d_Model_input_68 : decode b_Model_input 68 = .ok (.aload_n 0, 1) := by decide +kernel
theorem d_Model_input_69 : decode b_Model_input 69 = .ok (.getfield 288, 3) := by decide +kernel
theorem d_Model_input_72 : decode b_Model_input 72 = .ok (.iload_n 3, 1) := by decide +kernel
theorem d_Model_input_73 : decode b_Model_input 73 = .ok (.iaload, 1) := by decide +kernel
theorem d_Model_input_74 : decode b_Model_input 74 = .ok (.if_icmp .ge 33, 3) := by decide +kernel
theorem d_Model_input_77 : decode b_Model_input 77 = .ok (.iload 4, 2) := by decide +kernel
theorem d_Model_input_79 : decode b_Model_input 79 = .ok (.ifCond .ne 28, 3) := by decide +kernel
theorem d_Model_input_82 : decode b_Model_input 82 = .ok (.aload_n 0, 1) := by decide +kernel
theorem d_Model_input_83 : decode b_Model_input 83 = .ok (.aload_n 0, 1) := by decide +kernel
theorem d_Model_input_84 : decode b_Model_input 84 = .ok (.getfield 291, 3) := by decide +kernel
theorem d_Model_input_87 : decode b_Model_input 87 = .ok (.iconst 5, 1) := by decide +kernel
theorem d_Model_input_88 : decode b_Model_input 88 = .ok (.iload_n 3, 1) := by decide +kernel
theorem d_Model_input_89 : decode b_Model_input 89 = .ok (.imul, 1) := by decide +kernel
theorem d_Model_input_90 : decode b_Model_input 90 = .ok (.iload 6, 2) := by decide +kernel
theorem d_Model_input_92 : decode b_Model_input 92 = .ok (.iadd, 1) := by decide +kernel
theorem d_Model_input_93 : decode b_Model_input 93 = .ok (.iaload, 1) := by decide +kernel
theorem d_Model_input_94 : decode b_Model_input 94 = .ok (.iload 5, 2) := by decide +kernel
theorem d_Model_input_96 : decode b_Model_input 96 = .ok (.invokevirtual 91, 3) := by decide +kernel
theorem d_Model_input_99 : decode b_Model_input 99 = .ok (.istore 4, 2) := by decide +kernel
theorem d_Model_input_101 : decode b_Model_input 101 = .ok (.iinc 6 1, 3) := by decide +kernel
theorem d_Model_input_104 : decode b_Model_input 104 = .ok (.goto (-38), 3) := by decide +kernel
theorem d_Model_input_107 : decode b_Model_input 107 = .ok (.iload 4, 2) := by decide +kernel
theorem d_Model_input_109 : decode b_Model_input 109 = .ok (.ifCond .eq 16, 3) := by decide +kernel
theorem d_Model_input_112 : decode b_Model_input 112 = .ok (.aload_n 0, 1) := by decide +kernel
theorem d_Model_input_113 : decode b_Model_input 113 = .ok (.bipush 9, 2) := by decide +kernel
theorem d_Model_input_115 : decode b_Model_input 115 = .ok (.aload_n 0, 1) := by decide +kernel
theorem d_Model_input_116 : decode b_Model_input 116 = .ok (.getfield 267, 3) := by decide +kernel
theorem d_Model_input_119 : decode b_Model_input 119 = .ok (.iload_n 1, 1) := by decide +kernel
theorem d_Model_input_120 : decode b_Model_input 120 = .ok (.iaload, 1) := by decide +kernel
theorem d_Model_input_121 : decode b_Model_input 121 = .ok (.invokevirtual 437, 3) := by decide +kernel
theorem d_Model_input_124 : decode b_Model_input 124 = .ok (.return_, 1) := by decide +kernel
theorem d_Model_input_125 : decode b_Model_input 125 = .ok (.aload_n 0, 1) := by decide +kernel
theorem d_Model_input_126 : decode b_Model_input 126 = .ok (.getfield 291, 3) := by decide +kernel
theorem d_Model_input_129 : decode b_Model_input 129 = .ok (.iconst 5, 1) := by decide +kernel
theorem d_Model_input_130 : decode b_Model_input 130 = .ok (.iload_n 3, 1) := by decide +kernel
theorem d_Model_input_131 : decode b_Model_input 131 = .ok (.imul, 1) := by decide +kernel
theorem d_Model_input_132 : decode b_Model_input 132 = .ok (.aload_n 0, 1) := by decide +kernel
theorem d_Model_input_133 : decode b_Model_input 133 = .ok (.getfield 288, 3) := by decide +kernel
theorem d_Model_input_136 : decode b_Model_input 136 = .ok (.iload_n 3, 1) := by decide +kernel
theorem d_Model_input_137 : decode b_Model_input 137 = .ok (.iaload, 1) := by decide +kernel
theorem d_Model_input_138 : decode b_Model_input 138 = .ok (.iadd, 1) := by decide +kernel
theorem d_Model_input_139 : decode b_Model_input 139 = .ok (.iload 5, 2) := by decide +kernel
theorem d_Model_input_141 : decode b_Model_input 141 = .ok (.iastore, 1) := by decide +kernel
theorem d_Model_input_142 : decode b_Model_input 142 = .ok (.aload_n 0, 1) := by decide +kernel
theorem d_Model_input_143 : decode b_Model_input 143 = .ok (.getfield 288, 3) := by decide +kernel
theorem d_Model_input_146 : decode b_Model_input 146 = .ok (.iload_n 3, 1) := by decide +kernel
theorem d_Model_input_147 : decode b_Model_input 147 = .ok (.dup2, 1) := by decide +kernel
theorem d_Model_input_148 : decode b_Model_input 148 = .ok (.iaload, 1) := by decide +kernel
theorem d_Model_input_149 : decode b_Model_input 149 = .ok (.iconst 1, 1) := by decide +kernel
theorem d_Model_input_150 : decode b_Model_input 150 = .ok (.iadd, 1) := by decide +kernel
theorem d_Model_input_151 : decode b_Model_input 151 = .ok (.iastore, 1) := by decide +kernel
theorem d_Model_input_152 : decode b_Model_input 152 = .ok (.return_, 1) := by decide +kernel
theorem lk_Model_437 : Cond.methodLink "TurtleWorldModel" 437 ⟨"TurtleWorldModel", "fail", "(II)V"⟩ ∈ tw_T := tw_i10 0 (by decide +kernel) (by decide +kernel)
theorem hd_Model_fail : y_Model_fail.cls ≠ "java/lang/invoke/MethodHandle" ∧ y_Model_fail.cls ≠ "java/lang/invoke/VarHandle" ∧ (parseMethodDescriptor y_Model_fail.desc).map (fun d => d.parameters.length) = some 2 := by decide +kernel
theorem in_Model_fail : Cond.instanceMethod ⟨"TurtleWorldModel", "fail", "(II)V"⟩ ∈ tw_T := tw_i10 2 (by decide +kernel) (by decide +kernel)
theorem sel_Model_fail : Cond.selects "TurtleWorldModel" ⟨"TurtleWorldModel", "fail", "(II)V"⟩ ⟨"TurtleWorldModel", "fail", "(II)V"⟩ ∈ tw_T := tw_inS 90 (by decide +kernel) (by decide +kernel)
theorem hd_Model_isNumber : y_Model_isNumber.cls ≠ "java/lang/invoke/MethodHandle" ∧ y_Model_isNumber.cls ≠ "java/lang/invoke/VarHandle" ∧ (parseMethodDescriptor y_Model_isNumber.desc).map (fun d => d.parameters.length) = some 1 := by decide +kernel
theorem hd_Model_isWord : y_Model_isWord.cls ≠ "java/lang/invoke/MethodHandle" ∧ y_Model_isWord.cls ≠ "java/lang/invoke/VarHandle" ∧ (parseMethodDescriptor y_Model_isWord.desc).map (fun d => d.parameters.length) = some 1 := by decide +kernel
theorem hd_Model_listValue : y_Model_listValue.cls ≠ "java/lang/invoke/MethodHandle" ∧ y_Model_listValue.cls ≠ "java/lang/invoke/VarHandle" ∧ (parseMethodDescriptor y_Model_listValue.desc).map (fun d => d.parameters.length) = some 1 := by decide +kernel
theorem lk_Model_393 : Cond.methodLink "TurtleWorldModel" 393 ⟨"TurtleWorldModel", "moveWord", "(I)I"⟩ ∈ tw_T := tw_i10 122 (by decide +kernel) (by decide +kernel)
theorem hd_Model_moveWord : y_Model_moveWord.cls ≠ "java/lang/invoke/MethodHandle" ∧ y_Model_moveWord.cls ≠ "java/lang/invoke/VarHandle" ∧ (parseMethodDescriptor y_Model_moveWord.desc).map (fun d => d.parameters.length) = some 1 := by decide +kernel
theorem in_Model_moveWord : Cond.instanceMethod ⟨"TurtleWorldModel", "moveWord", "(I)I"⟩ ∈ tw_T := tw_i10 124 (by decide +kernel) (by decide +kernel)
theorem sel_Model_moveWord : Cond.selects "TurtleWorldModel" ⟨"TurtleWorldModel", "moveWord", "(I)I"⟩ ⟨"TurtleWorldModel", "moveWord", "(I)I"⟩ ∈ tw_T := tw_inS 109 (by decide +kernel) (by decide +kernel)
theorem d_Model_valueOf_0 : decode b_Model_valueOf 0 = .ok (.aload_n 0, 1) := by decide +kernel
theorem d_Model_valueOf_1 : decode b_Model_valueOf 1 = .ok (.iload_n 1, 1) := by decide +kernel
theorem d_Model_valueOf_2 : decode b_Model_valueOf 2 = .ok (.iload_n 2, 1) := by decide +kernel
theorem d_Model_valueOf_3 : decode b_Model_valueOf 3 = .ok (.invokevirtual 639, 3) := by decide +kernel
theorem d_Model_valueOf_6 : decode b_Model_valueOf 6 = .ok (.istore_n 3, 1) := by decide +kernel
theorem d_Model_valueOf_7 : decode b_Model_valueOf 7 = .ok (.iload_n 3, 1) := by decide +kernel
theorem d_Model_valueOf_8 : decode b_Model_valueOf 8 = .ok (.iconst (-1), 1) := by decide +kernel
theorem d_Model_valueOf_9 : decode b_Model_valueOf 9 = .ok (.if_icmp .ne 9, 3) := by decide +kernel
theorem d_Model_valueOf_12 : decode b_Model_valueOf 12 = .ok (.ldc2_w 7, 3) := by decide +kernel
theorem d_Model_valueOf_15 : decode b_Model_valueOf 15 = .ok (.goto 29, 3) := by decide +kernel
theorem d_Model_valueOf_18 : decode b_Model_valueOf 18 = .ok (.iload_n 3, 1) := by decide +kernel
theorem d_Model_valueOf_19 : decode b_Model_valueOf 19 = .ok (.sipush 10000, 3) := by decide +kernel
theorem d_Model_valueOf_22 : decode b_Model_valueOf 22 = .ok (.if_icmp .lt 16, 3) := by decide +kernel
theorem d_Model_valueOf_25 : decode b_Model_valueOf 25 = .ok (.aload_n 0, 1) := by decide +kernel
theorem d_Model_valueOf_26 : decode b_Model_valueOf 26 = .ok (.getfield 198, 3) := by decide +kernel
theorem d_Model_valueOf_29 : decode b_Model_valueOf 29 = .ok (.iload_n 3, 1) := by decide +kernel
theorem d_Model_valueOf_30 : decode b_Model_valueOf 30 = .ok (.sipush 10000, 3) := by decide +kernel
theorem d_Model_valueOf_33 : decode b_Model_valueOf 33 = .ok (.isub, 1) := by decide +kernel
theorem d_Model_valueOf_34 : decode b_Model_valueOf 34 = .ok (.laload, 1) := by decide +kernel
theorem d_Model_valueOf_35 : decode b_Model_valueOf 35 = .ok (.goto 9, 3) := by decide +kernel
theorem d_Model_valueOf_38 : decode b_Model_valueOf 38 = .ok (.aload_n 0, 1) := by decide +kernel
theorem d_Model_valueOf_39 : decode b_Model_valueOf 39 = .ok (.getfield 313, 3) := by decide +kernel
theorem d_Model_valueOf_42 : decode b_Model_valueOf 42 = .ok (.iload_n 3, 1) := by decide +kernel
theorem d_Model_valueOf_43 : decode b_Model_valueOf 43 = .ok (.laload, 1) := by decide +kernel
theorem d_Model_valueOf_44 : decode b_Model_valueOf 44 = .ok (.lstore 4, 2) := by decide +kernel
theorem d_Model_valueOf_46 : decode b_Model_valueOf 46 = .ok (.lload 4, 2) := by decide +kernel
theorem d_Model_valueOf_48 : decode b_Model_valueOf 48 = .ok (.ldc2_w 7, 3) := by decide +kernel
theorem d_Model_valueOf_51 : decode b_Model_valueOf 51 = .ok (.lcmp, 1) := by decide +kernel
theorem d_Model_valueOf_52 : decode b_Model_valueOf 52 = .ok (.ifCond .ne 11, 3) := by decide +kernel
theorem d_Model_valueOf_55 : decode b_Model_valueOf 55 = .ok (.aload_n 0, 1) := by decide +kernel
theorem d_Model_valueOf_56 : decode b_Model_valueOf 56 = .ok (.iconst 2, 1) := by decide +kernel
theorem d_Model_valueOf_57 : decode b_Model_valueOf 57 = .ok (.invokevirtual 596, 3) := by decide +kernel
theorem d_Model_valueOf_60 : decode b_Model_valueOf 60 = .ok (.goto 5, 3) := by decide +kernel
theorem d_Model_valueOf_63 : decode b_Model_valueOf 63 = .ok (.lload 4, 2) := by decide +kernel
theorem d_Model_valueOf_65 : decode b_Model_valueOf 65 = .ok (.lreturn, 1) := by decide +kernel
theorem lk_Model_639 : Cond.methodLink "TurtleWorldModel" 639 ⟨"TurtleWorldModel", "found", "(II)I"⟩ ∈ tw_T := tw_i10 172 (by decide +kernel) (by decide +kernel)
theorem hd_Model_found : y_Model_found.cls ≠ "java/lang/invoke/MethodHandle" ∧ y_Model_found.cls ≠ "java/lang/invoke/VarHandle" ∧ (parseMethodDescriptor y_Model_found.desc).map (fun d => d.parameters.length) = some 2 := by decide +kernel
theorem in_Model_found : Cond.instanceMethod ⟨"TurtleWorldModel", "found", "(II)I"⟩ ∈ tw_T := tw_i10 174 (by decide +kernel) (by decide +kernel)
theorem sel_Model_found : Cond.selects "TurtleWorldModel" ⟨"TurtleWorldModel", "found", "(II)I"⟩ ⟨"TurtleWorldModel", "found", "(II)I"⟩ ∈ tw_T := tw_inS 120 (by decide +kernel) (by decide +kernel)
theorem d_Model_closed_0 : decode b_Model_closed 0 = .ok (.aload_n 0, 1) := by decide +kernel
theorem d_Model_closed_1 : decode b_Model_closed 1 = .ok (.getfield 590, 3) := by decide +kernel
theorem d_Model_closed_4 : decode b_Model_closed 4 = .ok (.aload_n 0, 1) := by decide +kernel
theorem d_Model_closed_5 : decode b_Model_closed 5 = .ok (.getfield 47, 3) := by decide +kernel
theorem d_Model_closed_8 : decode b_Model_closed 8 = .ok (.aload_n 0, 1) := by decide +kernel
theorem d_Model_closed_9 : decode b_Model_closed 9 = .ok (.getfield 587, 3) := by decide +kernel
theorem d_Model_closed_12 : decode b_Model_closed 12 = .ok (.iaload, 1) := by decide +kernel
theorem d_Model_closed_13 : decode b_Model_closed 13 = .ok (.if_icmp .lt 9, 3) := by decide +kernel
theorem d_Model_closed_16 : decode b_Model_closed 16 = .ok (.aload_n 0, 1) := by decide +kernel
theorem d_Model_closed_17 : decode b_Model_closed 17 = .ok (.iconst 4, 1) := by decide +kernel
theorem d_Model_closed_18 : decode b_Model_closed 18 = .ok (.invokevirtual 596, 3) := by decide +kernel
theorem d_Model_closed_21 : decode b_Model_closed 21 = .ok (.lreturn, 1) := by decide +kernel
theorem d_Model_closed_22 : decode b_Model_closed 22 = .ok (.aload_n 0, 1) := by decide +kernel
theorem d_Model_closed_23 : decode b_Model_closed 23 = .ok (.getfield 35, 3) := by decide +kernel
theorem d_Model_closed_26 : decode b_Model_closed 26 = .ok (.aload_n 0, 1) := by decide +kernel
theorem d_Model_closed_27 : decode b_Model_closed 27 = .ok (.getfield 41, 3) := by decide +kernel
theorem d_Model_closed_30 : decode b_Model_closed 30 = .ok (.aload_n 0, 1) := by decide +kernel
theorem d_Model_closed_31 : decode b_Model_closed 31 = .ok (.getfield 587, 3) := by decide +kernel
theorem d_Model_closed_34 : decode b_Model_closed 34 = .ok (.iaload, 1) := by decide +kernel
theorem d_Model_closed_35 : decode b_Model_closed 35 = .ok (.aload_n 0, 1) := by decide +kernel
theorem d_Model_closed_36 : decode b_Model_closed 36 = .ok (.getfield 590, 3) := by decide +kernel
theorem d_Model_closed_39 : decode b_Model_closed 39 = .ok (.iadd, 1) := by decide +kernel
theorem d_Model_closed_40 : decode b_Model_closed 40 = .ok (.laload, 1) := by decide +kernel
theorem d_Model_closed_41 : decode b_Model_closed 41 = .ok (.lstore_n 3, 1) := by decide +kernel
theorem d_Model_closed_42 : decode b_Model_closed 42 = .ok (.lload_n 3, 1) := by decide +kernel
theorem d_Model_closed_43 : decode b_Model_closed 43 = .ok (.invokestatic 61, 3) := by decide +kernel
theorem d_Model_closed_46 : decode b_Model_closed 46 = .ok (.ifCond .eq 17, 3) := by decide +kernel
theorem d_Model_closed_49 : decode b_Model_closed 49 = .ok (.aload_n 0, 1) := by decide +kernel
theorem d_Model_closed_50 : decode b_Model_closed 50 = .ok (.lload_n 3, 1) := by decide +kernel
theorem d_Model_closed_51 : decode b_Model_closed 51 = .ok (.invokestatic 64, 3) := by decide +kernel
theorem d_Model_closed_54 : decode b_Model_closed 54 = .ok (.ldc_w 637, 3) := by decide +kernel
theorem d_Model_closed_57 : decode b_Model_closed 57 = .ok (.invokevirtual 473, 3) := by decide +kernel
theorem d_Model_closed_60 : decode b_Model_closed 60 = .ok (.ifCond .ne 9, 3) := by decide +kernel
theorem d_Model_closed_63 : decode b_Model_closed 63 = .ok (.aload_n 0, 1) := by decide +kernel
theorem d_Model_closed_64 : decode b_Model_closed 64 = .ok (.iconst 4, 1) := by decide +kernel
theorem d_Model_closed_65 : decode b_Model_closed 65 = .ok (.invokevirtual 596, 3) := by decide +kernel
theorem d_Model_closed_68 : decode b_Model_closed 68 = .ok (.lreturn, 1) := by decide +kernel
theorem d_Model_closed_69 : decode b_Model_closed 69 = .ok (.aload_n 0, 1) := by decide +kernel
theorem d_Model_closed_70 : decode b_Model_closed 70 = .ok (.dup, 1) := by decide +kernel
theorem d_Model_closed_71 : decode b_Model_closed 71 = .ok (.getfield 590, 3) := by decide +kernel
theorem d_Model_closed_74 : decode b_Model_closed 74 = .ok (.iconst 1, 1) := by decide +kernel
theorem d_Model_closed_75 : decode b_Model_closed 75 = .ok (.iadd, 1) := by decide +kernel
theorem d_Model_closed_76 : decode b_Model_closed 76 = .ok (.putfield 590, 3) := by decide +kernel
theorem d_Model_closed_79 : decode b_Model_closed 79 = .ok (.aload_n 0, 1) := by decide +kernel
theorem d_Model_closed_80 : decode b_Model_closed 80 = .ok (.dup, 1) := by decide +kernel
theorem d_Model_closed_81 : decode b_Model_closed 81 = .ok (.getfield 535, 3) := by decide +kernel
theorem d_Model_closed_84 : decode b_Model_closed 84 = .ok (.iconst 1, 1) := by decide +kernel
theorem d_Model_closed_85 : decode b_Model_closed 85 = .ok (.isub, 1) := by decide +kernel
theorem d_Model_closed_86 : decode b_Model_closed 86 = .ok (.putfield 535, 3) := by decide +kernel
theorem d_Model_closed_89 : decode b_Model_closed 89 = .ok (.lload_n 1, 1) := by decide +kernel
theorem d_Model_closed_90 : decode b_Model_closed 90 = .ok (.lreturn, 1) := by decide +kernel
theorem d_Model_minus_0 : decode b_Model_minus 0 = .ok (.lload_n 1, 1) := by decide +kernel
theorem d_Model_minus_1 : decode b_Model_minus 1 = .ok (.ldc2_w 7, 3) := by decide +kernel
theorem d_Model_minus_4 : decode b_Model_minus 4 = .ok (.lcmp, 1) := by decide +kernel
theorem d_Model_minus_5 : decode b_Model_minus 5 = .ok (.ifCond .ne 9, 3) := by decide +kernel
theorem d_Model_minus_8 : decode b_Model_minus 8 = .ok (.aload_n 0, 1) := by decide +kernel
theorem d_Model_minus_9 : decode b_Model_minus 9 = .ok (.iconst 4, 1) := by decide +kernel
theorem d_Model_minus_10 : decode b_Model_minus 10 = .ok (.invokevirtual 596, 3) := by decide +kernel
theorem d_Model_minus_13 : decode b_Model_minus 13 = .ok (.lreturn, 1) := by decide +kernel
theorem d_Model_minus_14 : decode b_Model_minus 14 = .ok (.aload_n 0, 1) := by decide +kernel
theorem d_Model_minus_15 : decode b_Model_minus 15 = .ok (.dup, 1) := by decide +kernel
theorem d_Model_minus_16 : decode b_Model_minus 16 = .ok (.getfield 535, 3) := by decide +kernel
theorem d_Model_minus_19 : decode b_Model_minus 19 = .ok (.iconst 1, 1) := by decide +kernel
theorem d_Model_minus_20 : decode b_Model_minus 20 = .ok (.isub, 1) := by decide +kernel
theorem d_Model_minus_21 : decode b_Model_minus 21 = .ok (.putfield 535, 3) := by decide +kernel
theorem d_Model_minus_24 : decode b_Model_minus 24 = .ok (.aload_n 0, 1) := by decide +kernel
theorem d_Model_minus_25 : decode b_Model_minus 25 = .ok (.invokevirtual 620, 3) := by decide +kernel
theorem d_Model_minus_28 : decode b_Model_minus 28 = .ok (.ifCond .ne 7, 3) := by decide +kernel
theorem d_Model_minus_31 : decode b_Model_minus 31 = .ok (.ldc2_w 7, 3) := by decide +kernel
theorem d_Model_minus_34 : decode b_Model_minus 34 = .ok (.lreturn, 1) := by decide +kernel
theorem d_Model_minus_35 : decode b_Model_minus 35 = .ok (.lload_n 1, 1) := by decide +kernel
theorem d_Model_minus_36 : decode b_Model_minus 36 = .ok (.invokestatic 57, 3) := by decide +kernel
theorem d_Model_minus_39 : decode b_Model_minus 39 = .ok (.ifCond .eq 14, 3) := by decide +kernel
theorem d_Model_minus_42 : decode b_Model_minus 42 = .ok (.lload_n 1, 1) := by decide +kernel
theorem d_Model_minus_43 : decode b_Model_minus 43 = .ok (.invokestatic 64, 3) := by decide +kernel
theorem d_Model_minus_46 : decode b_Model_minus 46 = .ok (.ineg, 1) := by decide +kernel
theorem d_Model_minus_47 : decode b_Model_minus 47 = .ok (.invokestatic 451, 3) := by decide +kernel
theorem d_Model_minus_50 : decode b_Model_minus 50 = .ok (.goto 8, 3) := by decide +kernel
theorem d_Model_minus_53 : decode b_Model_minus 53 = .ok (.aload_n 0, 1) := by decide +kernel
theorem d_Model_minus_54 : decode b_Model_minus 54 = .ok (.iconst 3, 1) := by decide +kernel
theorem d_Model_minus_55 : decode b_Model_minus 55 = .ok (.invokevirtual 596, 3) := by decide +kernel
theorem d_Model_minus_58 : decode b_Model_minus 58 = .ok (.lreturn, 1) := by decide +kernel
theorem lk_Model_620 : Cond.methodLink "TurtleWorldModel" 620 ⟨"TurtleWorldModel", "begins", "()Z"⟩ ∈ tw_T := tw_i10 189 (by decide +kernel) (by decide +kernel)
theorem hd_Model_begins : y_Model_begins.cls ≠ "java/lang/invoke/MethodHandle" ∧ y_Model_begins.cls ≠ "java/lang/invoke/VarHandle" ∧ (parseMethodDescriptor y_Model_begins.desc).map (fun d => d.parameters.length) = some 0 := by decide +kernel
theorem in_Model_begins : Cond.instanceMethod ⟨"TurtleWorldModel", "begins", "()Z"⟩ ∈ tw_T := tw_i10 191 (by decide +kernel) (by decide +kernel)
theorem sel_Model_begins : Cond.selects "TurtleWorldModel" ⟨"TurtleWorldModel", "begins", "()Z"⟩ ⟨"TurtleWorldModel", "begins", "()Z"⟩ ∈ tw_T := tw_inS 124 (by decide +kernel) (by decide +kernel)
theorem d_Model_isTruth_0 : decode b_Model_isTruth 0 = .ok (.lload_n 1, 1) := by decide +kernel
theorem d_Model_isTruth_1 : decode b_Model_isTruth 1 = .ok (.invokestatic 61, 3) := by decide +kernel
theorem d_Model_isTruth_4 : decode b_Model_isTruth 4 = .ok (.ifCond .eq 35, 3) := by decide +kernel
theorem d_Model_isTruth_7 : decode b_Model_isTruth 7 = .ok (.aload_n 0, 1) := by decide +kernel
theorem d_Model_isTruth_8 : decode b_Model_isTruth 8 = .ok (.lload_n 1, 1) := by decide +kernel
theorem d_Model_isTruth_9 : decode b_Model_isTruth 9 = .ok (.invokestatic 64, 3) := by decide +kernel
theorem d_Model_isTruth_12 : decode b_Model_isTruth 12 = .ok (.ldc_w 574, 3) := by decide +kernel
theorem d_Model_isTruth_15 : decode b_Model_isTruth 15 = .ok (.invokevirtual 473, 3) := by decide +kernel
theorem d_Model_isTruth_18 : decode b_Model_isTruth 18 = .ok (.ifCond .ne 17, 3) := by decide +kernel
theorem d_Model_isTruth_21 : decode b_Model_isTruth 21 = .ok (.aload_n 0, 1) := by decide +kernel
theorem d_Model_isTruth_22 : decode b_Model_isTruth 22 = .ok (.lload_n 1, 1) := by decide +kernel
theorem d_Model_isTruth_23 : decode b_Model_isTruth 23 = .ok (.invokestatic 64, 3) := by decide +kernel
theorem d_Model_isTruth_26 : decode b_Model_isTruth 26 = .ok (.ldc_w 582, 3) := by decide +kernel
theorem d_Model_isTruth_29 : decode b_Model_isTruth 29 = .ok (.invokevirtual 473, 3) := by decide +kernel
theorem d_Model_isTruth_32 : decode b_Model_isTruth 32 = .ok (.ifCond .eq 7, 3) := by decide +kernel
theorem d_Model_isTruth_35 : decode b_Model_isTruth 35 = .ok (.iconst 1, 1) := by decide +kernel
theorem d_Model_isTruth_36 : decode b_Model_isTruth 36 = .ok (.goto 4, 3) := by decide +kernel
theorem d_Model_isTruth_39 : decode b_Model_isTruth 39 = .ok (.iconst 0, 1) := by decide +kernel
theorem d_Model_isTruth_40 : decode b_Model_isTruth 40 = .ok (.ireturn, 1) := by decide +kernel
theorem d_Model_draws_0 : decode b_Model_draws 0 = .ok (.iload 5, 2) := by decide +kernel
theorem d_Model_draws_2 : decode b_Model_draws 2 = .ok (.i2l, 1) := by decide +kernel
theorem d_Model_draws_3 : decode b_Model_draws 3 = .ok (.iload_n 1, 1) := by decide +kernel
theorem d_Model_draws_4 : decode b_Model_draws 4 = .ok (.i2l, 1) := by decide +kernel
theorem d_Model_draws_5 : decode b_Model_draws 5 = .ok (.lsub, 1) := by decide +kernel
theorem d_Model_draws_6 : decode b_Model_draws 6 = .ok (.iload 6, 2) := by decide +kernel
theorem d_Model_draws_8 : decode b_Model_draws 8 = .ok (.i2l, 1) := by decide +kernel
theorem d_Model_draws_9 : decode b_Model_draws 9 = .ok (.iload_n 2, 1) := by decide +kernel
theorem d_Model_draws_10 : decode b_Model_draws 10 = .ok (.i2l, 1) := by decide +kernel
theorem d_Model_draws_11 : decode b_Model_draws 11 = .ok (.lsub, 1) := by decide +kernel
theorem d_Model_draws_12 : decode b_Model_draws 12 = .ok (.invokestatic 842, 3) := by decide +kernel
theorem d_Model_draws_15 : decode b_Model_draws 15 = .ok (.ifCond .lt 7, 3) := by decide +kernel
theorem d_Model_draws_18 : decode b_Model_draws 18 = .ok (.iconst 1, 1) := by decide +kernel
theorem d_Model_draws_19 : decode b_Model_draws 19 = .ok (.goto 4, 3) := by decide +kernel
theorem d_Model_draws_22 : decode b_Model_draws 22 = .ok (.iconst 0, 1) := by decide +kernel
theorem d_Model_draws_23 : decode b_Model_draws 23 = .ok (.istore 12, 2) := by decide +kernel
theorem d_Model_draws_25 : decode b_Model_draws 25 = .ok (.iload 12, 2) := by decide +kernel
theorem d_Model_draws_27 : decode b_Model_draws 27 = .ok (.ifCond .eq 7, 3) := by decide +kernel
theorem d_Model_draws_30 : decode b_Model_draws 30 = .ok (.iload_n 1, 1) := by decide +kernel
theorem d_Model_draws_31 : decode b_Model_draws 31 = .ok (.goto 5, 3) := by decide +kernel
theorem d_Model_draws_34 : decode b_Model_draws 34 = .ok (.iload 5, 2) := by decide +kernel
theorem d_Model_draws_36 : decode b_Model_draws 36 = .ok (.istore 13, 2) := by decide +kernel
theorem d_Model_draws_38 : decode b_Model_draws 38 = .ok (.iload 12, 2) := by decide +kernel
theorem d_Model_draws_40 : decode b_Model_draws 40 = .ok (.ifCond .eq 7, 3) := by decide +kernel
theorem d_Model_draws_43 : decode b_Model_draws 43 = .ok (.iload_n 2, 1) := by decide +kernel
theorem d_Model_draws_44 : decode b_Model_draws 44 = .ok (.goto 5, 3) := by decide +kernel
theorem d_Model_draws_47 : decode b_Model_draws 47 = .ok (.iload 6, 2) := by decide +kernel
theorem d_Model_draws_49 : decode b_Model_draws 49 = .ok (.istore 14, 2) := by decide +kernel
theorem d_Model_draws_51 : decode b_Model_draws 51 = .ok (.iload 12, 2) := by decide +kernel
theorem d_Model_draws_53 : decode b_Model_draws 53 = .ok (.ifCond .eq 7, 3) := by decide +kernel
theorem d_Model_draws_56 : decode b_Model_draws 56 = .ok (.iload_n 3, 1) := by decide +kernel
theorem d_Model_draws_57 : decode b_Model_draws 57 = .ok (.goto 5, 3) := by decide +kernel
theorem d_Model_draws_60 : decode b_Model_draws 60 = .ok (.iload 7, 2) := by decide +kernel
theorem d_Model_draws_62 : decode b_Model_draws 62 = .ok (.istore 15, 2) := by decide +kernel
theorem d_Model_draws_64 : decode b_Model_draws 64 = .ok (.iload 12, 2) := by decide +kernel
theorem d_Model_draws_66 : decode b_Model_draws 66 = .ok (.ifCond .eq 8, 3) := by decide +kernel
theorem d_Model_draws_69 : decode b_Model_draws 69 = .ok (.iload 4, 2) := by decide +kernel
theorem d_Model_draws_71 : decode b_Model_draws 71 = .ok (.goto 5, 3) := by decide +kernel
theorem d_Model_draws_74 : decode b_Model_draws 74 = .ok (.iload 8, 2) := by decide +kernel
theorem d_Model_draws_76 : decode b_Model_draws 76 = .ok (.istore 16, 2) := by decide +kernel
theorem d_Model_draws_78 : decode b_Model_draws 78 = .ok (.iload 12, 2) := by decide +kernel
theorem d_Model_draws_80 : decode b_Model_draws 80 = .ok (.ifCond .eq 8, 3) := by decide +kernel
theorem d_Model_draws_83 : decode b_Model_draws 83 = .ok (.iload 5, 2) := by decide +kernel
theorem d_Model_draws_85 : decode b_Model_draws 85 = .ok (.goto 4, 3) := by decide +kernel
theorem d_Model_draws_88 : decode b_Model_draws 88 = .ok (.iload_n 1, 1) := by decide +kernel
theorem d_Model_draws_89 : decode b_Model_draws 89 = .ok (.istore 17, 2) := by decide +kernel
theorem d_Model_draws_91 : decode b_Model_draws 91 = .ok (.iload 12, 2) := by decide +kernel
theorem d_Model_draws_93 : decode b_Model_draws 93 = .ok (.ifCond .eq 8, 3) := by decide +kernel
theorem d_Model_draws_96 : decode b_Model_draws 96 = .ok (.iload 6, 2) := by decide +kernel
theorem d_Model_draws_98 : decode b_Model_draws 98 = .ok (.goto 4, 3) := by decide +kernel
theorem d_Model_draws_101 : decode b_Model_draws 101 = .ok (.iload_n 2, 1) := by decide +kernel
theorem d_Model_draws_102 : decode b_Model_draws 102 = .ok (.istore 18, 2) := by decide +kernel
theorem d_Model_draws_104 : decode b_Model_draws 104 = .ok (.iload 12, 2) := by decide +kernel
theorem d_Model_draws_106 : decode b_Model_draws 106 = .ok (.ifCond .eq 8, 3) := by decide +kernel
theorem d_Model_draws_109 : decode b_Model_draws 109 = .ok (.iload 7, 2) := by decide +kernel
theorem d_Model_draws_111 : decode b_Model_draws 111 = .ok (.goto 4, 3) := by decide +kernel
theorem d_Model_draws_114 : decode b_Model_draws 114 = .ok (.iload_n 3, 1) := by decide +kernel
theorem d_Model_draws_115 : decode b_Model_draws 115 = .ok (.istore 19, 2) := by decide +kernel
theorem d_Model_draws_117 : decode b_Model_draws 117 = .ok (.iload 12, 2) := by decide +kernel
theorem d_Model_draws_119 : decode b_Model_draws 119 = .ok (.ifCond .eq 8, 3) := by decide +kernel
theorem d_Model_draws_122 : decode b_Model_draws 122 = .ok (.iload 8, 2) := by decide +kernel
theorem d_Model_draws_124 : decode b_Model_draws 124 = .ok (.goto 5, 3) := by decide +kernel
theorem d_Model_draws_127 : decode b_Model_draws 127 = .ok (.iload 4, 2) := by decide +kernel
theorem d_Model_draws_129 : decode b_Model_draws 129 = .ok (.istore 20, 2) := by decide +kernel
theorem d_Model_draws_131 : decode b_Model_draws 131 = .ok (.bipush (-32), 2) := by decide +kernel
theorem d_Model_draws_133 : decode b_Model_draws 133 = .ok (.iload 13, 2) := by decide +kernel
theorem d_Model_draws_135 : decode b_Model_draws 135 = .ok (.iconst 1, 1) := by decide +kernel
theorem d_Model_draws_136 : decode b_Model_draws 136 = .ok (.iadd, 1) := by decide +kernel
theorem d_Model_draws_137 : decode b_Model_draws 137 = .ok (.i2l, 1) := by decide +kernel
theorem d_Model_draws_138 : decode b_Model_draws 138 = .ok (.iload 14, 2) := by decide +kernel
theorem d_Model_draws_140 : decode b_Model_draws 140 = .ok (.i2l, 1) := by decide +kernel
theorem d_Model_draws_141 : decode b_Model_draws 141 = .ok (.ldc2_w 9, 3) := by decide +kernel
theorem d_Model_draws_144 : decode b_Model_draws 144 = .ok (.invokestatic 823, 3) := by decide +kernel
theorem d_Model_draws_147 : decode b_Model_draws 147 = .ok (.invokestatic 830, 3) := by decide +kernel
theorem d_Model_draws_150 : decode b_Model_draws 150 = .ok (.istore 21, 2) := by decide +kernel
theorem d_Model_draws_152 : decode b_Model_draws 152 = .ok (.bipush 31, 2) := by decide +kernel
theorem d_Model_draws_154 : decode b_Model_draws 154 = .ok (.iload 17, 2) := by decide +kernel
theorem d_Model_draws_156 : decode b_Model_draws 156 = .ok (.iconst 1, 1) := by decide +kernel
theorem d_Model_draws_157 : decode b_Model_draws 157 = .ok (.iadd, 1) := by decide +kernel
theorem d_Model_draws_158 : decode b_Model_draws 158 = .ok (.i2l, 1) := by decide +kernel
theorem d_Model_draws_159 : decode b_Model_draws 159 = .ok (.iload 18, 2) := by decide +kernel
theorem d_Model_draws_161 : decode b_Model_draws 161 = .ok (.i2l, 1) := by decide +kernel
theorem d_Model_draws_162 : decode b_Model_draws 162 = .ok (.ldc2_w 9, 3) := by decide +kernel
theorem d_Model_draws_165 : decode b_Model_draws 165 = .ok (.invokestatic 823, 3) := by decide +kernel
theorem d_Model_draws_168 : decode b_Model_draws 168 = .ok (.invokestatic 845, 3) := by decide +kernel
theorem d_Model_draws_171 : decode b_Model_draws 171 = .ok (.istore 22, 2) := by decide +kernel
theorem d_Model_draws_173 : decode b_Model_draws 173 = .ok (.iload 21, 2) := by decide +kernel
theorem d_Model_draws_175 : decode b_Model_draws 175 = .ok (.istore 23, 2) := by decide +kernel
theorem d_Model_draws_177 : decode b_Model_draws 177 = .ok (.iload 23, 2) := by decide +kernel
theorem d_Model_draws_179 : decode b_Model_draws 179 = .ok (.iload 22, 2) := by decide +kernel
theorem d_Model_draws_181 : decode b_Model_draws 181 = .ok (.if_icmp .gt 208, 3) := by decide +kernel
theorem d_Model_draws_184 : decode b_Model_draws 184 = .ok (.ldc2_w 9, 3) := by decide +kernel
theorem d_Model_draws_187 : decode b_Model_draws 187 = .ok (.iload 23, 2) := by decide +kernel
theorem d_Model_draws_189 : decode b_Model_draws 189 = .ok (.i2l, 1) := by decide +kernel
theorem d_Model_draws_190 : decode b_Model_draws 190 = .ok (.lmul, 1) := by decide +kernel
theorem d_Model_draws_191 : decode b_Model_draws 191 = .ok (.iload 13, 2) := by decide +kernel
theorem d_Model_draws_193 : decode b_Model_draws 193 = .ok (.i2l, 1) := by decide +kernel
theorem d_Model_draws_194 : decode b_Model_draws 194 = .ok (.lsub, 1) := by decide +kernel
theorem d_Model_draws_195 : decode b_Model_draws 195 = .ok (.iload 14, 2) := by decide +kernel
theorem d_Model_draws_197 : decode b_Model_draws 197 = .ok (.ineg, 1) := by decide +kernel
theorem d_Model_draws_198 : decode b_Model_draws 198 = .ok (.i2l, 1) := by decide +kernel
theorem d_Model_draws_199 : decode b_Model_draws 199 = .ok (.invokestatic 842, 3) := by decide +kernel
theorem d_Model_draws_202 : decode b_Model_draws 202 = .ok (.ifCond .ge 22, 3) := by decide +kernel
theorem d_Model_draws_205 : decode b_Model_draws 205 = .ok (.iload 15, 2) := by decide +kernel
theorem d_Model_draws_207 : decode b_Model_draws 207 = .ok (.iconst 1, 1) := by decide +kernel
theorem d_Model_draws_208 : decode b_Model_draws 208 = .ok (.iadd, 1) := by decide +kernel
theorem d_Model_draws_209 : decode b_Model_draws 209 = .ok (.i2l, 1) := by decide +kernel
theorem d_Model_draws_210 : decode b_Model_draws 210 = .ok (.iload 16, 2) := by decide +kernel
theorem d_Model_draws_212 : decode b_Model_draws 212 = .ok (.i2l, 1) := by decide +kernel
theorem d_Model_draws_213 : decode b_Model_draws 213 = .ok (.ldc2_w 9, 3) := by decide +kernel
theorem d_Model_draws_216 : decode b_Model_draws 216 = .ok (.invokestatic 823, 3) := by decide +kernel
theorem d_Model_draws_219 : decode b_Model_draws 219 = .ok (.istore 24, 2) := by decide +kernel
theorem d_Model_draws_221 : decode b_Model_draws 221 = .ok (.goto 105, 3) := by decide +kernel
theorem d_Model_draws_224 : decode b_Model_draws 224 = .ok (.ldc2_w 9, 3) := by decide +kernel
theorem d_Model_draws_227 : decode b_Model_draws 227 = .ok (.iload 23, 2) := by decide +kernel
theorem d_Model_draws_229 : decode b_Model_draws 229 = .ok (.i2l, 1) := by decide +kernel
theorem d_Model_draws_230 : decode b_Model_draws 230 = .ok (.lmul, 1) := by decide +kernel
theorem d_Model_draws_231 : decode b_Model_draws 231 = .ok (.iload 17, 2) := by decide +kernel
theorem d_Model_draws_233 : decode b_Model_draws 233 = .ok (.i2l, 1) := by decide +kernel
theorem d_Model_draws_234 : decode b_Model_draws 234 = .ok (.lsub, 1) := by decide +kernel
theorem d_Model_draws_235 : decode b_Model_draws 235 = .ok (.iload 18, 2) := by decide +kernel
theorem d_Model_draws_237 : decode b_Model_draws 237 = .ok (.ineg, 1) := by decide +kernel
theorem d_Model_draws_238 : decode b_Model_draws 238 = .ok (.i2l, 1) := by decide +kernel
theorem d_Model_draws_239 : decode b_Model_draws 239 = .ok (.invokestatic 842, 3) := by decide +kernel
theorem d_Model_draws_242 : decode b_Model_draws 242 = .ok (.ifCond .le 22, 3) := by decide +kernel
theorem d_Model_draws_245 : decode b_Model_draws 245 = .ok (.iload 19, 2) := by decide +kernel
theorem d_Model_draws_247 : decode b_Model_draws 247 = .ok (.iconst 1, 1) := by decide +kernel
theorem d_Model_draws_248 : decode b_Model_draws 248 = .ok (.iadd, 1) := by decide +kernel
theorem d_Model_draws_249 : decode b_Model_draws 249 = .ok (.i2l, 1) := by decide +kernel
theorem d_Model_draws_250 : decode b_Model_draws 250 = .ok (.iload 20, 2) := by decide +kernel
theorem d_Model_draws_252 : decode b_Model_draws 252 = .ok (.i2l, 1) := by decide +kernel
theorem d_Model_draws_253 : decode b_Model_draws 253 = .ok (.ldc2_w 9, 3) := by decide +kernel
theorem d_Model_draws_256 : decode b_Model_draws 256 = .ok (.invokestatic 823, 3) := by decide +kernel
theorem d_Model_draws_259 : decode b_Model_draws 259 = .ok (.istore 24, 2) := by decide +kernel
theorem d_Model_draws_261 : decode b_Model_draws 261 = .ok (.goto 65, 3) := by decide +kernel
theorem d_Model_draws_264 : decode b_Model_draws 264 = .ok (.ldc2_w 7, 3) := by decide +kernel
theorem d_Model_draws_267 : decode b_Model_draws 267 = .ok (.iload 15, 2) := by decide +kernel
theorem d_Model_draws_269 : decode b_Model_draws 269 = .ok (.i2l, 1) := by decide +kernel
theorem d_Model_draws_270 : decode b_Model_draws 270 = .ok (.lmul, 1) := by decide +kernel
theorem d_Model_draws_271 : decode b_Model_draws 271 = .ok (.ldc2_w 7, 3) := by decide +kernel
theorem d_Model_draws_274 : decode b_Model_draws 274 = .ok (.iload 9, 2) := by decide +kernel
theorem d_Model_draws_276 : decode b_Model_draws 276 = .ok (.i2l, 1) := by decide +kernel
theorem d_Model_draws_277 : decode b_Model_draws 277 = .ok (.lmul, 1) := by decide +kernel
theorem d_Model_draws_278 : decode b_Model_draws 278 = .ok (.iload 14, 2) := by decide +kernel
theorem d_Model_draws_280 : decode b_Model_draws 280 = .ok (.i2l, 1) := by decide +kernel
theorem d_Model_draws_281 : decode b_Model_draws 281 = .ok (.lmul, 1) := by decide +kernel
theorem d_Model_draws_282 : decode b_Model_draws 282 = .ok (.lsub, 1) := by decide +kernel
theorem d_Model_draws_283 : decode b_Model_draws 283 = .ok (.lstore 25, 2) := by decide +kernel
theorem d_Model_draws_285 : decode b_Model_draws 285 = .ok (.ldc2_w 7, 3) := by decide +kernel
theorem d_Model_draws_288 : decode b_Model_draws 288 = .ok (.iload 16, 2) := by decide +kernel
theorem d_Model_draws_290 : decode b_Model_draws 290 = .ok (.i2l, 1) := by decide +kernel
theorem d_Model_draws_291 : decode b_Model_draws 291 = .ok (.lmul, 1) := by decide +kernel
theorem d_Model_draws_292 : decode b_Model_draws 292 = .ok (.iload 9, 2) := by decide +kernel
theorem d_Model_draws_294 : decode b_Model_draws 294 = .ok (.i2l, 1) := by decide +kernel
theorem d_Model_draws_295 : decode b_Model_draws 295 = .ok (.ldc2_w 9, 3) := by decide +kernel
theorem d_Model_draws_298 : decode b_Model_draws 298 = .ok (.iload 23, 2) := by decide +kernel
theorem d_Model_draws_300 : decode b_Model_draws 300 = .ok (.i2l, 1) := by decide +kernel
theorem d_Model_draws_301 : decode b_Model_draws 301 = .ok (.lmul, 1) := by decide +kernel
theorem d_Model_draws_302 : decode b_Model_draws 302 = .ok (.iload 13, 2) := by decide +kernel
theorem d_Model_draws_304 : decode b_Model_draws 304 = .ok (.i2l, 1) := by decide +kernel
theorem d_Model_draws_305 : decode b_Model_draws 305 = .ok (.lsub, 1) := by decide +kernel
theorem d_Model_draws_306 : decode b_Model_draws 306 = .ok (.lmul, 1) := by decide +kernel
theorem d_Model_draws_307 : decode b_Model_draws 307 = .ok (.ladd, 1) := by decide +kernel
theorem d_Model_draws_308 : decode b_Model_draws 308 = .ok (.lstore 27, 2) := by decide +kernel
theorem d_Model_draws_310 : decode b_Model_draws 310 = .ok (.lload 25, 2) := by decide +kernel
theorem d_Model_draws_312 : decode b_Model_draws 312 = .ok (.ldc2_w 7, 3) := by decide +kernel
theorem d_Model_draws_315 : decode b_Model_draws 315 = .ok (.ladd, 1) := by decide +kernel
theorem d_Model_draws_316 : decode b_Model_draws 316 = .ok (.lload 27, 2) := by decide +kernel
theorem d_Model_draws_318 : decode b_Model_draws 318 = .ok (.ldc2_w 847, 3) := by decide +kernel
theorem d_Model_draws_321 : decode b_Model_draws 321 = .ok (.invokestatic 823, 3) := by decide +kernel
theorem d_Model_draws_324 : decode b_Model_draws 324 = .ok (.istore 24, 2) := by decide +kernel
theorem d_Model_draws_326 : decode b_Model_draws 326 = .ok (.iload 24, 2) := by decide +kernel
theorem d_Model_draws_328 : decode b_Model_draws 328 = .ok (.bipush (-32), 2) := by decide +kernel
theorem d_Model_draws_330 : decode b_Model_draws 330 = .ok (.if_icmp .lt 53, 3) := by decide +kernel
theorem d_Model_draws_333 : decode b_Model_draws 333 = .ok (.iload 24, 2) := by decide +kernel
theorem d_Model_draws_335 : decode b_Model_draws 335 = .ok (.bipush 31, 2) := by decide +kernel
theorem d_Model_draws_337 : decode b_Model_draws 337 = .ok (.if_icmp .gt 46, 3) := by decide +kernel
theorem d_Model_draws_340 : decode b_Model_draws 340 = .ok (.aload_n 0, 1) := by decide +kernel
theorem d_Model_draws_341 : decode b_Model_draws 341 = .ok (.getfield 222, 3) := by decide +kernel
theorem d_Model_draws_344 : decode b_Model_draws 344 = .ok (.iload 11, 2) := by decide +kernel
theorem d_Model_draws_346 : decode b_Model_draws 346 = .ok (.ifCond .eq 20, 3) := by decide +kernel
theorem d_Model_draws_349 : decode b_Model_draws 349 = .ok (.bipush 64, 2) := by decide +kernel
theorem d_Model_draws_351 : decode b_Model_draws 351 = .ok (.iload 23, 2) := by decide +kernel
theorem d_Model_draws_353 : decode b_Model_draws 353 = .ok (.bipush 32, 2) := by decide +kernel
theorem d_Model_draws_355 : decode b_Model_draws 355 = .ok (.iadd, 1) := by decide +kernel
theorem d_Model_draws_356 : decode b_Model_draws 356 = .ok (.imul, 1) := by decide +kernel
theorem d_Model_draws_357 : decode b_Model_draws 357 = .ok (.iload 24, 2) := by decide +kernel
theorem d_Model_draws_359 : decode b_Model_draws 359 = .ok (.iadd, 1) := by decide +kernel
theorem d_Model_draws_360 : decode b_Model_draws 360 = .ok (.bipush 32, 2) := by decide +kernel
theorem d_Model_draws_362 : decode b_Model_draws 362 = .ok (.iadd, 1) := by decide +kernel
theorem d_Model_draws_363 : decode b_Model_draws 363 = .ok (.goto 17, 3) := by decide +kernel
theorem d_Model_draws_366 : decode b_Model_draws 366 = .ok (.bipush 64, 2) := by decide +kernel
theorem d_Model_draws_368 : decode b_Model_draws 368 = .ok (.iload 24, 2) := by decide +kernel
theorem d_Model_draws_370 : decode b_Model_draws 370 = .ok (.bipush 32, 2) := by decide +kernel
theorem d_Model_draws_372 : decode b_Model_draws 372 = .ok (.iadd, 1) := by decide +kernel
theorem d_Model_draws_373 : decode b_Model_draws 373 = .ok (.imul, 1) := by decide +kernel
theorem d_Model_draws_374 : decode b_Model_draws 374 = .ok (.iload 23, 2) := by decide +kernel
theorem d_Model_draws_376 : decode b_Model_draws 376 = .ok (.iadd, 1) := by decide +kernel
theorem d_Model_draws_377 : decode b_Model_draws 377 = .ok (.bipush 32, 2) := by decide +kernel
theorem d_Model_draws_379 : decode b_Model_draws 379 = .ok (.iadd, 1) := by decide +kernel
theorem d_Model_draws_380 : decode b_Model_draws 380 = .ok (.iload 10, 2) := by decide +kernel
theorem d_Model_draws_382 : decode b_Model_draws 382 = .ok (.iastore, 1) := by decide +kernel
theorem d_Model_draws_383 : decode b_Model_draws 383 = .ok (.iinc 23 1, 3) := by decide +kernel
theorem d_Model_draws_386 : decode b_Model_draws 386 = .ok (.goto (-209), 3) := by decide +kernel
theorem d_Model_draws_389 : decode b_Model_draws 389 = .ok (.return_, 1) := by decide +kernel
theorem lk_Model_823 : Cond.methodLink "TurtleWorldModel" 823 ⟨"TurtleWorldModel", "floor", "(JJJ)I"⟩ ∈ tw_T := tw_i11 32 (by decide +kernel) (by decide +kernel)
theorem hd_Model_floor : y_Model_floor.cls ≠ "java/lang/invoke/MethodHandle" ∧ y_Model_floor.cls ≠ "java/lang/invoke/VarHandle" ∧ (parseMethodDescriptor y_Model_floor.desc).map (fun d => d.parameters.length) = some 3 := by decide +kernel
theorem st_Model_floor : Cond.static ⟨"TurtleWorldModel", "floor", "(JJJ)I"⟩ ∈ tw_T := tw_i11 33 (by decide +kernel) (by decide +kernel)
theorem lk_Model_830 : Cond.methodLink "TurtleWorldModel" 830 ⟨"java/lang/Math", "max", "(II)I"⟩ ∈ tw_T := tw_i11 41 (by decide +kernel) (by decide +kernel)
theorem lk_Model_845 : Cond.methodLink "TurtleWorldModel" 845 ⟨"java/lang/Math", "min", "(II)I"⟩ ∈ tw_T := tw_i11 42 (by decide +kernel) (by decide +kernel)
theorem lk_Model_847 : Cond.constantLong "TurtleWorldModel" 847 6 ∈ tw_T := tw_i11 43 (by decide +kernel) (by decide +kernel)
def m_Model_turtle (n : Nat) (i : Nat → Int32) (j : Nat → Int64) (a : Nat → Nat → Int32) (b : Nat → Nat → Int64) (v1 : Int32) (v2 : Int32) : Option ((Nat → Int32) × (Nat → Int64) × (Nat → Nat → Int32) × (Nat → Nat → Int64) × Int32) := ob1 (upd i 0 0 : Nat → Int32) (fun i_1 => ob0 (m_Model_isTurtle n i_1 j a b v1) (fun r_3 => if r_3 = ((0 : Int32)) then some (i_1, j, a, b, (-1)) else if v2 = ((0 : Int32)) then ck v1 8 (some (i_1, j, a, b, 30 * (a 41 v1.toNatClampNeg))) else if v2 = ((1 : Int32)) then ck v1 8 (some (i_1, j, a, b, a 42 v1.toNatClampNeg)) else if v2 = ((2 : Int32)) then ck v1 8 (some (i_1, j, a, b, a 43 v1.toNatClampNeg)) else some (i_1, j, a, b, (-1))))
set_option maxHeartbeats 4000000 in
set_option maxRecDepth 100000 in
theorem x_Model_turtle (l : Launch) (dC : Nat → ClassId) (dI : Nat → Nat → Nat) (cI cJ cB : ClassId) (adK adV adA : Nat → Nat) (h : Nat) (v : Nat → Nat) (sz : Nat) (n : Nat) {i : Nat → Int32} {j : Nat → Int64} {a : Nat → Nat → Int32} {b : Nat → Nat → Int64} {v1 : Int32} {v2 : Int32} {i2 : Nat → Int32} {j2 : Nat → Int64} {a2 : Nat → Nat → Int32} {b2 : Nat → Nat → Int64} {r2 : Int32} (hm : m_Model_turtle n i j a b v1 v2 = some (i2, j2, a2, b2, r2)) : Met l y_Model_turtle w_Model_turtle ({ frames := 1, cells := 0, slots := 0, locals := 21 } : Room) (va_Pc [.ref h, .int v1, .int v2] (yE dC dI cI cJ cB adK adV adA h v i j a b sz)) (va_Qi (xR r2) (yB dC dI cI cJ cB h v i2 j2 a2 b2 (va_A (MW cI cJ cB h v i j a b) sz)) (va_A (MW cI cJ cB h v i j a b) sz)) 0 0 ((va_A (MW cI cJ cB h v i j a b) sz)) := by
  refine Met.ofW (cc := b_Model_turtle) (maxL := 3) (ret := (some .int)) (by decide) rfl ?_
  intro p e s m args below meth c s₁ B hml hv
  obtain ⟨rfl, hsz, hP, hK, hE, hD0⟩ := hv
  have hx := B.exec
  have hb := B.bytes
  have hr := B.returns
  have hts := atoms_spec (ws := w_Model_turtle) B.pre
  have htt : ∀ w ∈ tw_T, w.before _ s = true := fun w h => hts w (List.mem_cons_of_mem _ h)
  have hown : s.vm.findClass R_Model = some m.cls := findClass_of_methodNamed B.named
  have hlocks := B.notSynchronized
  subst hsz
  have hD := hD0.self (sz := s.heap.size)
  generalize hAe : (va_A (MW cI cJ cB h v i j a b) s.heap.size) = A at hD hE ⊢
  have hA : ∀ q : Nat, s.heap.size ≤ q → A q := fun q h => by rw [← hAe]; exact Or.inr h
  have hS : va_S A s.heap s.heap [] := va_S.rf
  have hl := lv_entry ([.ref h, .int v1, .int v2]) (n := 3) (Nat.le_of_ble_eq_true rfl)
  rw [lg_entry_eq]
  generalize (lg_sl ([.ref h, .int v1, .int v2]) ++ List.replicate (3 - (lg_sl ([.ref h, .int v1, .int v2])).length) Slot.unset).toArray = ls at hl ⊢
  have hl : lv_has ls 3 [(0, .ref h), (1, .int v1), (2, .int v2)] := hl
  rw [m_Model_turtle] at hm
  refine lv_aload_n hx hb d_Model_turtle_0 rfl (lv_at hl 0 rfl) ?_
  refine lv_iconst (v := 0) hx hb d_Model_turtle_1 (by decide) ?_
  refine va_put (D := (dC, dI)) (ci := 12) (v := .int 0) (ty := .int) (C := R_Model) (T := F_Model) (N := 127) hx hb htt iw_Model t_Model t_Model_ok n_Model hown hK hP hD hS 0 yo_12 rfl 0 (Nat.le_of_ble_eq_true rfl) (htt _ lk_Model_1) (fun _ h9 => h9) rfl (by decide +kernel) rfl rfl yl_0 d_Model_turtle_2 (fun H locs hP hD hS => ?_)
  obtain ⟨i_1, ei_1⟩ : ∃ y9 : Nat → Int32, y9 = upd i 0 0 := ⟨_, rfl⟩
  replace hm := ob1_at ei_1 hm
  obtain ⟨hP, hD⟩ := yw_0 ei_1 hP hD
  refine lv_aload_n hx hb d_Model_turtle_5 rfl (lv_at hl 0 rfl) ?_
  refine lv_iload_n hx hb d_Model_turtle_6 rfl (lv_at hl 1 rfl) ?_
  obtain ⟨r_3, h_2, hm⟩ := ob0_some hm
  have hFc := x_free0 hS hA
  refine va_calli (va_runV (As := [.int v1]) (rest := []) ⟨hx, hb, hml, hown, hts⟩ (x_Model_isTurtle l dC dI cI cJ cB adK adV adA h v H.size n h_2) (cwV 1 hts (tw_GV tw_cons cw_Model_isTurtle lk_Model_849 in_Model_isTurtle sel_Model_isTurtle ini_Model) rfl rfl rfl ⟨rfl, hd_Model_isTurtle⟩ ⟨Nat.le_of_ble_eq_true rfl, Nat.le_of_ble_eq_true rfl⟩) (ypVr hK hP hS hE hFc yo_12 rfl) rfl rfl hl.1 rfl (lv_room (Nat.le_of_ble_eq_true rfl)) d_Model_turtle_7 ⟨Nat.le_of_ble_eq_true rfl, Nat.le_of_ble_eq_true rfl⟩) hS (fun q _ h => hFc q h) hFc (fun r9 u9 t9 H locs ht hvm e9 hB hz1 hk1 hS => ?_)
  have e9 : r_3 = r9 := e9
  subst e9
  replace hP := x_keep hP hk1
  clear hFc hk1 hz1 hvm hB ht
  refine lv_if_ne (tgt := 17) hx hb d_Model_turtle_10 (by decide) (fun c_4 => ?_) (fun c_4 => ?_)
  · replace hm := if_f c_4 hm
    refine lv_iload_n hx hb d_Model_turtle_17 rfl (lv_at hl 2 rfl) ?_
    refine lv_if_ne (tgt := 33) hx hb d_Model_turtle_18 (by decide) (fun c_5 => ?_) (fun c_5 => ?_)
    · replace hm := if_f c_5 hm
      refine lv_iload_n hx hb d_Model_turtle_33 rfl (lv_at hl 2 rfl) ?_
      refine lv_iconst (v := 1) hx hb d_Model_turtle_34 (by decide) ?_
      refine lv_icmp_ne (tgt := 47) hx hb d_Model_turtle_35 (by decide) (fun c_6 => ?_) (fun c_6 => ?_)
      · replace hm := if_f c_6 hm
        refine lv_iload_n hx hb d_Model_turtle_47 rfl (lv_at hl 2 rfl) ?_
        refine lv_iconst (v := 2) hx hb d_Model_turtle_48 (by decide) ?_
        refine lv_icmp_ne (tgt := 61) hx hb d_Model_turtle_49 (by decide) (fun c_7 => ?_) (fun c_7 => ?_)
        · replace hm := if_f c_7 hm
          refine lv_iconst (v := -1) hx hb d_Model_turtle_61 (by decide) ?_
          obtain ⟨e1i, e1j, e1a, e1b, e3⟩ := re4m hm
          obtain ⟨hP, hD⟩ := y_eq e1i e1j e1a e1b hP hD
          exact W.iret hx hb hr (fun t9 ht hW => ⟨⟨_, (), rfl, e3.symm, by rw [ht]; exact hP, hD⟩, hS.F ht⟩) hS.2.2 d_Model_turtle_62
        · replace hm := if_t c_7 hm
          refine lv_aload_n hx hb d_Model_turtle_52 rfl (lv_at hl 0 rfl) ?_
          refine va_get (D := (dC, dI)) (ci := 12) (v := .ref ((v 43))) (C := R_Model) (T := F_Model) (N := 127) hx hb htt iw_Model hown hK hP 0 yo_12 rfl 43 (Nat.le_of_ble_eq_true rfl) (htt _ lk_Model_219) (fun _ h9 => h9) yg_43 d_Model_turtle_53 ?_
          refine lv_iload_n hx hb d_Model_turtle_56 rfl (lv_at hl 1 rfl) ?_
          obtain ⟨h_8, hm⟩ := ck_some hm
          refine va_iald hx hb hK hP 35 0 ya_43 rfl h_8 d_Model_turtle_57 ?_
          refine lv_goto (tgt := 62) hx hb d_Model_turtle_58 (by decide) ?_
          obtain ⟨e1i, e1j, e1a, e1b, e3⟩ := re4m hm
          obtain ⟨hP, hD⟩ := y_eq e1i e1j e1a e1b hP hD
          exact W.iret hx hb hr (fun t9 ht hW => ⟨⟨_, (), rfl, e3.symm, by rw [ht]; exact hP, hD⟩, hS.F ht⟩) hS.2.2 d_Model_turtle_62
      · replace hm := if_t c_6 hm
        refine lv_aload_n hx hb d_Model_turtle_38 rfl (lv_at hl 0 rfl) ?_
        refine va_get (D := (dC, dI)) (ci := 12) (v := .ref ((v 42))) (C := R_Model) (T := F_Model) (N := 127) hx hb htt iw_Model hown hK hP 0 yo_12 rfl 42 (Nat.le_of_ble_eq_true rfl) (htt _ lk_Model_216) (fun _ h9 => h9) yg_42 d_Model_turtle_39 ?_
        refine lv_iload_n hx hb d_Model_turtle_42 rfl (lv_at hl 1 rfl) ?_
        obtain ⟨h_9, hm⟩ := ck_some hm
        refine va_iald hx hb hK hP 34 0 ya_42 rfl h_9 d_Model_turtle_43 ?_
        refine lv_goto (tgt := 62) hx hb d_Model_turtle_44 (by decide) ?_
        obtain ⟨e1i, e1j, e1a, e1b, e3⟩ := re4m hm
        obtain ⟨hP, hD⟩ := y_eq e1i e1j e1a e1b hP hD
        exact W.iret hx hb hr (fun t9 ht hW => ⟨⟨_, (), rfl, e3.symm, by rw [ht]; exact hP, hD⟩, hS.F ht⟩) hS.2.2 d_Model_turtle_62
    · replace hm := if_t c_5 hm
      refine lv_bipush (v := 30) hx hb d_Model_turtle_21 (by decide) ?_
      refine lv_aload_n hx hb d_Model_turtle_23 rfl (lv_at hl 0 rfl) ?_
      refine va_get (D := (dC, dI)) (ci := 12) (v := .ref ((v 41))) (C := R_Model) (T := F_Model) (N := 127) hx hb htt iw_Model hown hK hP 0 yo_12 rfl 41 (Nat.le_of_ble_eq_true rfl) (htt _ lk_Model_213) (fun _ h9 => h9) yg_41 d_Model_turtle_24 ?_
      refine lv_iload_n hx hb d_Model_turtle_27 rfl (lv_at hl 1 rfl) ?_
      obtain ⟨h_10, hm⟩ := ck_some hm
      refine va_iald hx hb hK hP 33 0 ya_41 rfl h_10 d_Model_turtle_28 ?_
      refine lv_imul hx hb d_Model_turtle_29 ?_
      refine lv_goto (tgt := 62) hx hb d_Model_turtle_30 (by decide) ?_
      obtain ⟨e1i, e1j, e1a, e1b, e3⟩ := re4m hm
      obtain ⟨hP, hD⟩ := y_eq e1i e1j e1a e1b hP hD
      exact W.iret hx hb hr (fun t9 ht hW => ⟨⟨_, (), rfl, e3.symm, by rw [ht]; exact hP, hD⟩, hS.F ht⟩) hS.2.2 d_Model_turtle_62
  · replace hm := if_t c_4 hm
    refine lv_iconst (v := -1) hx hb d_Model_turtle_13 (by decide) ?_
    refine lv_goto (tgt := 62) hx hb d_Model_turtle_14 (by decide) ?_
    obtain ⟨e1i, e1j, e1a, e1b, e3⟩ := re4m hm
    obtain ⟨hP, hD⟩ := y_eq e1i e1j e1a e1b hP hD
    exact W.iret hx hb hr (fun t9 ht hW => ⟨⟨_, (), rfl, e3.symm, by rw [ht]; exact hP, hD⟩, hS.F ht⟩) hS.2.2 d_Model_turtle_62

def m_Model_dot (n : Nat) (i : Nat → Int32) (j : Nat → Int64) (a : Nat → Nat → Int32) (b : Nat → Nat → Int64) (v1 : Int32) (v2 : Int32) : Option ((Nat → Int32) × (Nat → Int64) × (Nat → Nat → Int32) × (Nat → Nat → Int64) × Int32) := ob1 (upd i 0 0 : Nat → Int32) (fun i_1 => ob0 (m_Model_dotAt n i_1 j a b v1 v2) (fun r_3 => some (i_1, j, a, b, r_3)))
set_option maxHeartbeats 4000000 in
set_option maxRecDepth 100000 in
theorem x_Model_dot (l : Launch) (dC : Nat → ClassId) (dI : Nat → Nat → Nat) (cI cJ cB : ClassId) (adK adV adA : Nat → Nat) (h : Nat) (v : Nat → Nat) (sz : Nat) (n : Nat) {i : Nat → Int32} {j : Nat → Int64} {a : Nat → Nat → Int32} {b : Nat → Nat → Int64} {v1 : Int32} {v2 : Int32} {i2 : Nat → Int32} {j2 : Nat → Int64} {a2 : Nat → Nat → Int32} {b2 : Nat → Nat → Int64} {r2 : Int32} (hm : m_Model_dot n i j a b v1 v2 = some (i2, j2, a2, b2, r2)) : Met l y_Model_dot w_Model_dot ({ frames := 1, cells := 0, slots := 0, locals := 22 } : Room) (va_Pc [.ref h, .int v1, .int v2] (yE dC dI cI cJ cB adK adV adA h v i j a b sz)) (va_Qi (xR r2) (yB dC dI cI cJ cB h v i2 j2 a2 b2 (va_A (MW cI cJ cB h v i j a b) sz)) (va_A (MW cI cJ cB h v i j a b) sz)) 0 0 ((va_A (MW cI cJ cB h v i j a b) sz)) := by
  refine Met.ofW (cc := b_Model_dot) (maxL := 3) (ret := (some .int)) (by decide) rfl ?_
  intro p e s m args below meth c s₁ B hml hv
  obtain ⟨rfl, hsz, hP, hK, hE, hD0⟩ := hv
  have hx := B.exec
  have hb := B.bytes
  have hr := B.returns
  have hts := atoms_spec (ws := w_Model_dot) B.pre
  have htt : ∀ w ∈ tw_T, w.before _ s = true := fun w h => hts w (List.mem_cons_of_mem _ h)
  have hown : s.vm.findClass R_Model = some m.cls := findClass_of_methodNamed B.named
  have hlocks := B.notSynchronized
  subst hsz
  have hD := hD0.self (sz := s.heap.size)
  generalize hAe : (va_A (MW cI cJ cB h v i j a b) s.heap.size) = A at hD hE ⊢
  have hA : ∀ q : Nat, s.heap.size ≤ q → A q := fun q h => by rw [← hAe]; exact Or.inr h
  have hS : va_S A s.heap s.heap [] := va_S.rf
  have hl := lv_entry ([.ref h, .int v1, .int v2]) (n := 3) (Nat.le_of_ble_eq_true rfl)
  rw [lg_entry_eq]
  generalize (lg_sl ([.ref h, .int v1, .int v2]) ++ List.replicate (3 - (lg_sl ([.ref h, .int v1, .int v2])).length) Slot.unset).toArray = ls at hl ⊢
  have hl : lv_has ls 3 [(0, .ref h), (1, .int v1), (2, .int v2)] := hl
  rw [m_Model_dot] at hm
  refine lv_aload_n hx hb d_Model_dot_0 rfl (lv_at hl 0 rfl) ?_
  refine lv_iconst (v := 0) hx hb d_Model_dot_1 (by decide) ?_
  refine va_put (D := (dC, dI)) (ci := 12) (v := .int 0) (ty := .int) (C := R_Model) (T := F_Model) (N := 127) hx hb htt iw_Model t_Model t_Model_ok n_Model hown hK hP hD hS 0 yo_12 rfl 0 (Nat.le_of_ble_eq_true rfl) (htt _ lk_Model_1) (fun _ h9 => h9) rfl (by decide +kernel) rfl rfl yl_0 d_Model_dot_2 (fun H locs hP hD hS => ?_)
  obtain ⟨i_1, ei_1⟩ : ∃ y9 : Nat → Int32, y9 = upd i 0 0 := ⟨_, rfl⟩
  replace hm := ob1_at ei_1 hm
  obtain ⟨hP, hD⟩ := yw_0 ei_1 hP hD
  refine lv_aload_n hx hb d_Model_dot_5 rfl (lv_at hl 0 rfl) ?_
  refine lv_iload_n hx hb d_Model_dot_6 rfl (lv_at hl 1 rfl) ?_
  refine lv_iload_n hx hb d_Model_dot_7 rfl (lv_at hl 2 rfl) ?_
  obtain ⟨r_3, h_2, hm⟩ := ob0_some hm
  have hFc := x_free0 hS hA
  refine va_calli (va_runV (As := [.int v1, .int v2]) (rest := []) ⟨hx, hb, hml, hown, hts⟩ (x_Model_dotAt l dC dI cI cJ cB adK adV adA h v H.size n h_2) (cwV 2 hts (tw_GV tw_cons cw_Model_dotAt lk_Model_827 in_Model_dotAt sel_Model_dotAt ini_Model) rfl rfl rfl ⟨rfl, hd_Model_dotAt⟩ ⟨Nat.le_of_ble_eq_true rfl, Nat.le_of_ble_eq_true rfl⟩) (ypVr hK hP hS hE hFc yo_12 rfl) rfl rfl hl.1 rfl (lv_room (Nat.le_of_ble_eq_true rfl)) d_Model_dot_8 ⟨Nat.le_of_ble_eq_true rfl, Nat.le_of_ble_eq_true rfl⟩) hS (fun q _ h => hFc q h) hFc (fun r9 u9 t9 H locs ht hvm e9 hB hz1 hk1 hS => ?_)
  have e9 : r_3 = r9 := e9
  subst e9
  replace hP := x_keep hP hk1
  clear hFc hk1 hz1 hvm hB ht
  obtain ⟨e1i, e1j, e1a, e1b, e3⟩ := re4m hm
  obtain ⟨hP, hD⟩ := y_eq e1i e1j e1a e1b hP hD
  exact W.iret hx hb hr (fun t9 ht hW => ⟨⟨_, (), rfl, e3.symm, by rw [ht]; exact hP, hD⟩, hS.F ht⟩) hS.2.2 d_Model_dot_11

def m_Model_sum_b44 (n : Nat) (rc_36 : (Nat → Int32) → (Nat → Int64) → (Nat → Nat → Int32) → (Nat → Nat → Int64) → Int32 → Int32 → Option ((Nat → Int32) × (Nat → Int64) × (Nat → Nat → Int32) × (Nat → Nat → Int64) × Int32)) : Nat → (Nat → Int32) → (Nat → Int64) → (Nat → Nat → Int32) → (Nat → Nat → Int64) → Int32 → Int32 → Int32 → Option ((Nat → Int32) × (Nat → Int64) × (Nat → Nat → Int32) × (Nat → Nat → Int64) × Int32)
  | 0, _, _, _, _, _, _, _ => none
  | f + 1, i, j, a, b, v1, v2, v3 => if ((7 : Int32)) ≤ v3 then ob1 (v2 + 1 : Int32) (fun x_2 => rc_36 i j a b v1 x_2) else ob0 (m_Model_turtleRow n i j a b v3) (fun r_4 => cd r_4 (ck v2 8 (ob1 ((31 * v1) + (a r_4 v2.toNatClampNeg) : Int32) (fun x_6 => ob1 (v3 + 1 : Int32) (fun x_7 => m_Model_sum_b44 n rc_36 f i j a b x_6 v2 x_7)))))
set_option maxHeartbeats 4000000 in
set_option maxRecDepth 100000 in
theorem lb_Model_sum_44 (l : Launch) (dC : Nat → ClassId) (dI : Nat → Nat → Nat) (cI cJ cB : ClassId) (adK adV adA : Nat → Nat) (h : Nat) (v : Nat → Nat) (n : Nat) {p : Program} {e : Env} {s : State} {m : MethodId} {args : Array Value} {below : List Frame} {meth : Method} {c : Code} {A : Nat → Prop} (hx : p.tables.exec = Jvm.exec) (hb : c.code = b_Model_sum) (hml : c.maxLocals = 4) (hown : s.vm.findClass R_Model = some m.cls) (hts : ∀ w ∈ w_Model_sum, w.before args s = true) (hK : va_K (dC, dI) classes [(cI, .int), (cJ, .long), (cB, .byte)] s) (hE : tw_E adK adV adA A s s.heap) (hA : ∀ q : Nat, s.heap.size ≤ q → A q) (hr : meth.sig.returnType = (some .int)) (hlocks : meth.locks = false) {i2 : Nat → Int32} {j2 : Nat → Int64} {a2 : Nat → Nat → Int32} {b2 : Nat → Nat → Int64} {r2 : Int32} (rc_36 : (Nat → Int32) → (Nat → Int64) → (Nat → Nat → Int32) → (Nat → Nat → Int64) → Int32 → Int32 → Option ((Nat → Int32) × (Nat → Int64) × (Nat → Nat → Int32) × (Nat → Nat → Int64) × Int32)) (Hrc_36 : ∀ (i : Nat → Int32) (j : Nat → Int64) (a : Nat → Nat → Int32) (b : Nat → Nat → Int64) (v1 : Int32) (v2 : Int32), rc_36 i j a b v1 v2 = some (i2, j2, a2, b2, r2) → ∀ (H : Heap) (locs : List Loc) (ls : Array Slot), va_P (dC, dI) classes (MW cI cJ cB h v i j a b) H → va_D A (MW cI cJ cB h v i j a b) → va_S A s.heap H locs → lv_has ls 4 [(0, .ref h), (1, .int v1), (2, .int v2)] → W p l e ({ frames := 1, cells := 0, slots := 0, locals := 21 } : Room) s m args below meth c H locs 0 0 (MQ below (va_Qi (xR r2) (yB dC dI cI cJ cB h v i2 j2 a2 b2 A) A) args s 0 0 A) (F0 m 36 ls [])) : ∀ (f : Nat) (i : Nat → Int32) (j : Nat → Int64) (a : Nat → Nat → Int32) (b : Nat → Nat → Int64) (v1 : Int32) (v2 : Int32) (v3 : Int32), m_Model_sum_b44 n rc_36 f i j a b v1 v2 v3 = some (i2, j2, a2, b2, r2) → ∀ (H : Heap) (locs : List Loc) (ls : Array Slot), va_P (dC, dI) classes (MW cI cJ cB h v i j a b) H → va_D A (MW cI cJ cB h v i j a b) → va_S A s.heap H locs → lv_has ls 4 [(0, .ref h), (1, .int v1), (2, .int v2), (3, .int v3)] → W p l e ({ frames := 1, cells := 0, slots := 0, locals := 21 } : Room) s m args below meth c H locs 0 0 (MQ below (va_Qi (xR r2) (yB dC dI cI cJ cB h v i2 j2 a2 b2 A) A) args s 0 0 A) (F0 m 44 ls []) := by
  have htt : ∀ w ∈ tw_T, w.before _ s = true := fun w h => hts w (List.mem_cons_of_mem _ h)
  intro f
  induction f with
  | zero =>
    intro i j a b v1 v2 v3 hm
    rw [m_Model_sum_b44] at hm
    cases hm
  | succ f ih =>
    intro i j a b v1 v2 v3 hm H locs ls hP hD hS hl
    rw [m_Model_sum_b44] at hm
    refine lv_iload_n hx hb d_Model_sum_44 rfl (lv_at hl 3 rfl) ?_
    refine lv_bipush (v := 7) hx hb d_Model_sum_45 (by decide) ?_
    refine lv_icmp_ge (tgt := 69) hx hb d_Model_sum_47 (by decide) (fun c_1 => ?_) (fun c_1 => ?_)
    · replace hm := if_t c_1 hm
      obtain ⟨x_2, ex_2⟩ : ∃ y9 : Int32, y9 = v2 + 1 := ⟨_, rfl⟩
      replace hm := ob1_at ex_2 hm
      refine lv_iinc (v := x_2) (lv' := [(2, .int x_2), (0, .ref h), (1, .int v1), (3, .int v3)]) hx hb d_Model_sum_69 hl (k := 2) rfl (by rw [ex_2]; rfl) (by decide) rfl (fun ls hl => ?_)
      refine lv_goto (tgt := 36) hx hb d_Model_sum_72 (by decide) ?_
      exact Hrc_36 _ _ _ _ _ _ hm _ _ _ hP hD hS (lv_sub hl [1, 2, 0] rfl)
    · replace hm := if_f c_1 hm
      refine lv_bipush (v := 31) hx hb d_Model_sum_50 (by decide) ?_
      refine lv_iload_n hx hb d_Model_sum_52 rfl (lv_at hl 1 rfl) ?_
      refine lv_imul hx hb d_Model_sum_53 ?_
      refine lv_aload_n hx hb d_Model_sum_54 rfl (lv_at hl 0 rfl) ?_
      refine lv_iload_n hx hb d_Model_sum_55 rfl (lv_at hl 3 rfl) ?_
      obtain ⟨r_4, h_3, hm⟩ := ob0_some hm
      have hFc := x_free0 hS hA
      refine va_callr (va_runV (As := [.int v3]) (rest := [.int (31 * v1)]) ⟨hx, hb, hml, hown, hts⟩ (x_Model_turtleRow l dC dI cI cJ cB adK adV adA h v H.size n h_3) (cwV 1 hts (tw_GV tw_cons cw_Model_turtleRow lk_Model_340 in_Model_turtleRow sel_Model_turtleRow ini_Model) rfl rfl rfl ⟨rfl, hd_Model_turtleRow⟩ ⟨Nat.le_of_ble_eq_true rfl, Nat.le_of_ble_eq_true rfl⟩) (ypVr hK hP hS hE hFc yo_12 rfl) rfl rfl hl.1 rfl (lv_room (Nat.le_of_ble_eq_true rfl)) d_Model_sum_56 ⟨Nat.le_of_ble_eq_true rfl, Nat.le_of_ble_eq_true rfl⟩) hS (fun q _ h => hFc q h) hFc (fun u9 q9 t9 H locs ht hvm e9 hB hz1 hk1 hS => ?_)
      have hB : q9 = v r_4 := hB
      subst hB
      obtain ⟨hr_4, hm⟩ := cd_some hm
      replace hP := x_keep hP hk1
      clear hFc hk1 hz1 hvm ht
      refine lv_iload_n hx hb d_Model_sum_59 rfl (lv_at hl 2 rfl) ?_
      obtain ⟨h_5, hm⟩ := ck_some hm
      refine va_iald hx hb hK hP (29 + (r_4 - 37)) 0 (ya_t r_4 hr_4) rfl h_5 d_Model_sum_60 ?_
      refine lv_iadd hx hb d_Model_sum_61 ?_
      refine lv_topi (fun x_6 ex_6 => ?_)
      replace hm := ob1_at ex_6 hm
      refine lv_istore_n (lv' := [(1, .int x_6), (0, .ref h), (2, .int v2), (3, .int v3)]) hx hb d_Model_sum_62 rfl hl (by decide) rfl (fun ls hl => ?_)
      obtain ⟨x_7, ex_7⟩ : ∃ y9 : Int32, y9 = v3 + 1 := ⟨_, rfl⟩
      replace hm := ob1_at ex_7 hm
      refine lv_iinc (v := x_7) (lv' := [(3, .int x_7), (1, .int x_6), (0, .ref h), (2, .int v2)]) hx hb d_Model_sum_63 hl (k := 3) rfl (by rw [ex_7]; rfl) (by decide) rfl (fun ls hl => ?_)
      refine lv_goto (tgt := 44) hx hb d_Model_sum_66 (by decide) ?_
      exact ih _ _ _ _ _ _ _ hm _ _ _ hP hD hS (lv_sub hl [2, 1, 3, 0] rfl)
def m_Model_sum_b36 (n : Nat) : Nat → (Nat → Int32) → (Nat → Int64) → (Nat → Nat → Int32) → (Nat → Nat → Int64) → Int32 → Int32 → Option ((Nat → Int32) × (Nat → Int64) × (Nat → Nat → Int32) × (Nat → Nat → Int64) × Int32)
  | 0, _, _, _, _, _, _ => none
  | f + 1, i, j, a, b, v1, v2 => if ((8 : Int32)) ≤ v2 then some (i, j, a, b, v1) else m_Model_sum_b44 n (m_Model_sum_b36 n f) n i j a b v1 v2 (0 : Int32)
set_option maxHeartbeats 4000000 in
set_option maxRecDepth 100000 in
theorem lb_Model_sum_36 (l : Launch) (dC : Nat → ClassId) (dI : Nat → Nat → Nat) (cI cJ cB : ClassId) (adK adV adA : Nat → Nat) (h : Nat) (v : Nat → Nat) (n : Nat) {p : Program} {e : Env} {s : State} {m : MethodId} {args : Array Value} {below : List Frame} {meth : Method} {c : Code} {A : Nat → Prop} (hx : p.tables.exec = Jvm.exec) (hb : c.code = b_Model_sum) (hml : c.maxLocals = 4) (hown : s.vm.findClass R_Model = some m.cls) (hts : ∀ w ∈ w_Model_sum, w.before args s = true) (hK : va_K (dC, dI) classes [(cI, .int), (cJ, .long), (cB, .byte)] s) (hE : tw_E adK adV adA A s s.heap) (hA : ∀ q : Nat, s.heap.size ≤ q → A q) (hr : meth.sig.returnType = (some .int)) (hlocks : meth.locks = false) {i2 : Nat → Int32} {j2 : Nat → Int64} {a2 : Nat → Nat → Int32} {b2 : Nat → Nat → Int64} {r2 : Int32} : ∀ (f : Nat) (i : Nat → Int32) (j : Nat → Int64) (a : Nat → Nat → Int32) (b : Nat → Nat → Int64) (v1 : Int32) (v2 : Int32), m_Model_sum_b36 n f i j a b v1 v2 = some (i2, j2, a2, b2, r2) → ∀ (H : Heap) (locs : List Loc) (ls : Array Slot), va_P (dC, dI) classes (MW cI cJ cB h v i j a b) H → va_D A (MW cI cJ cB h v i j a b) → va_S A s.heap H locs → lv_has ls 4 [(0, .ref h), (1, .int v1), (2, .int v2)] → W p l e ({ frames := 1, cells := 0, slots := 0, locals := 21 } : Room) s m args below meth c H locs 0 0 (MQ below (va_Qi (xR r2) (yB dC dI cI cJ cB h v i2 j2 a2 b2 A) A) args s 0 0 A) (F0 m 36 ls []) := by
  have htt : ∀ w ∈ tw_T, w.before _ s = true := fun w h => hts w (List.mem_cons_of_mem _ h)
  intro f
  induction f with
  | zero =>
    intro i j a b v1 v2 hm
    rw [m_Model_sum_b36] at hm
    cases hm
  | succ f ih =>
    intro i j a b v1 v2 hm H locs ls hP hD hS hl
    rw [m_Model_sum_b36] at hm
    refine lv_iload_n hx hb d_Model_sum_36 rfl (lv_at hl 2 rfl) ?_
    refine lv_bipush (v := 8) hx hb d_Model_sum_37 (by decide) ?_
    refine lv_icmp_ge (tgt := 75) hx hb d_Model_sum_39 (by decide) (fun c_1 => ?_) (fun c_1 => ?_)
    · replace hm := if_t c_1 hm
      refine lv_iload_n hx hb d_Model_sum_75 rfl (lv_at hl 1 rfl) ?_
      obtain ⟨e1i, e1j, e1a, e1b, e3⟩ := re4m hm
      obtain ⟨hP, hD⟩ := y_eq e1i e1j e1a e1b hP hD
      exact W.iret hx hb hr (fun t9 ht hW => ⟨⟨_, (), rfl, e3.symm, by rw [ht]; exact hP, hD⟩, hS.F ht⟩) hS.2.2 d_Model_sum_76
    · replace hm := if_f c_1 hm
      refine lv_iconst (v := 0) hx hb d_Model_sum_42 (by decide) ?_
      refine lv_istore_n (lv' := [(3, .int 0), (0, .ref h), (1, .int v1), (2, .int v2)]) hx hb d_Model_sum_43 rfl hl (by decide) rfl (fun ls hl => ?_)
      exact lb_Model_sum_44 l dC dI cI cJ cB adK adV adA h v n hx hb hml hown hts hK hE hA hr hlocks (m_Model_sum_b36 n f) ih n _ _ _ _ _ _ _ hm _ _ _ hP hD hS (lv_sub hl [1, 2, 3, 0] rfl)
def m_Model_sum_b9 (n : Nat) : Nat → (Nat → Int32) → (Nat → Int64) → (Nat → Nat → Int32) → (Nat → Nat → Int64) → Int32 → Int32 → Option ((Nat → Int32) × (Nat → Int64) × (Nat → Nat → Int32) × (Nat → Nat → Int64) × Int32)
  | 0, _, _, _, _, _, _ => none
  | f + 1, i, j, a, b, v1, v2 => if ((4096 : Int32)) ≤ v2 then m_Model_sum_b36 n n i j a b v1 (0 : Int32) else ck v2 4096 (ob1 ((31 * v1) + (a 44 v2.toNatClampNeg) : Int32) (fun x_3 => ob1 (v2 + 1 : Int32) (fun x_4 => m_Model_sum_b9 n f i j a b x_3 x_4)))
set_option maxHeartbeats 4000000 in
set_option maxRecDepth 100000 in
theorem lb_Model_sum_9 (l : Launch) (dC : Nat → ClassId) (dI : Nat → Nat → Nat) (cI cJ cB : ClassId) (adK adV adA : Nat → Nat) (h : Nat) (v : Nat → Nat) (n : Nat) {p : Program} {e : Env} {s : State} {m : MethodId} {args : Array Value} {below : List Frame} {meth : Method} {c : Code} {A : Nat → Prop} (hx : p.tables.exec = Jvm.exec) (hb : c.code = b_Model_sum) (hml : c.maxLocals = 4) (hown : s.vm.findClass R_Model = some m.cls) (hts : ∀ w ∈ w_Model_sum, w.before args s = true) (hK : va_K (dC, dI) classes [(cI, .int), (cJ, .long), (cB, .byte)] s) (hE : tw_E adK adV adA A s s.heap) (hA : ∀ q : Nat, s.heap.size ≤ q → A q) (hr : meth.sig.returnType = (some .int)) (hlocks : meth.locks = false) {i2 : Nat → Int32} {j2 : Nat → Int64} {a2 : Nat → Nat → Int32} {b2 : Nat → Nat → Int64} {r2 : Int32} : ∀ (f : Nat) (i : Nat → Int32) (j : Nat → Int64) (a : Nat → Nat → Int32) (b : Nat → Nat → Int64) (v1 : Int32) (v2 : Int32), m_Model_sum_b9 n f i j a b v1 v2 = some (i2, j2, a2, b2, r2) → ∀ (H : Heap) (locs : List Loc) (ls : Array Slot), va_P (dC, dI) classes (MW cI cJ cB h v i j a b) H → va_D A (MW cI cJ cB h v i j a b) → va_S A s.heap H locs → lv_has ls 4 [(0, .ref h), (1, .int v1), (2, .int v2)] → W p l e ({ frames := 1, cells := 0, slots := 0, locals := 21 } : Room) s m args below meth c H locs 0 0 (MQ below (va_Qi (xR r2) (yB dC dI cI cJ cB h v i2 j2 a2 b2 A) A) args s 0 0 A) (F0 m 9 ls []) := by
  have htt : ∀ w ∈ tw_T, w.before _ s = true := fun w h => hts w (List.mem_cons_of_mem _ h)
  intro f
  induction f with
  | zero =>
    intro i j a b v1 v2 hm
    rw [m_Model_sum_b9] at hm
    cases hm
  | succ f ih =>
    intro i j a b v1 v2 hm H locs ls hP hD hS hl
    rw [m_Model_sum_b9] at hm
    refine lv_iload_n hx hb d_Model_sum_9 rfl (lv_at hl 2 rfl) ?_
    refine lv_sipush (v := 4096) hx hb d_Model_sum_10 (by decide) ?_
    refine lv_icmp_ge (tgt := 34) hx hb d_Model_sum_13 (by decide) (fun c_1 => ?_) (fun c_1 => ?_)
    · replace hm := if_t c_1 hm
      refine lv_iconst (v := 0) hx hb d_Model_sum_34 (by decide) ?_
      refine lv_istore_n (lv' := [(2, .int 0), (0, .ref h), (1, .int v1)]) hx hb d_Model_sum_35 rfl hl (by decide) rfl (fun ls hl => ?_)
      exact lb_Model_sum_36 l dC dI cI cJ cB adK adV adA h v n hx hb hml hown hts hK hE hA hr hlocks n _ _ _ _ _ _ hm _ _ _ hP hD hS (lv_sub hl [1, 2, 0] rfl)
    · replace hm := if_f c_1 hm
      refine lv_bipush (v := 31) hx hb d_Model_sum_16 (by decide) ?_
      refine lv_iload_n hx hb d_Model_sum_18 rfl (lv_at hl 1 rfl) ?_
      refine lv_imul hx hb d_Model_sum_19 ?_
      refine lv_aload_n hx hb d_Model_sum_20 rfl (lv_at hl 0 rfl) ?_
      refine va_get (D := (dC, dI)) (ci := 12) (v := .ref ((v 44))) (C := R_Model) (T := F_Model) (N := 127) hx hb htt iw_Model hown hK hP 0 yo_12 rfl 44 (Nat.le_of_ble_eq_true rfl) (htt _ lk_Model_222) (fun _ h9 => h9) yg_44 d_Model_sum_21 ?_
      refine lv_iload_n hx hb d_Model_sum_24 rfl (lv_at hl 2 rfl) ?_
      obtain ⟨h_2, hm⟩ := ck_some hm
      refine va_iald hx hb hK hP 36 0 ya_44 rfl h_2 d_Model_sum_25 ?_
      refine lv_iadd hx hb d_Model_sum_26 ?_
      refine lv_topi (fun x_3 ex_3 => ?_)
      replace hm := ob1_at ex_3 hm
      refine lv_istore_n (lv' := [(1, .int x_3), (0, .ref h), (2, .int v2)]) hx hb d_Model_sum_27 rfl hl (by decide) rfl (fun ls hl => ?_)
      obtain ⟨x_4, ex_4⟩ : ∃ y9 : Int32, y9 = v2 + 1 := ⟨_, rfl⟩
      replace hm := ob1_at ex_4 hm
      refine lv_iinc (v := x_4) (lv' := [(2, .int x_4), (1, .int x_3), (0, .ref h)]) hx hb d_Model_sum_28 hl (k := 2) rfl (by rw [ex_4]; rfl) (by decide) rfl (fun ls hl => ?_)
      refine lv_goto (tgt := 9) hx hb d_Model_sum_31 (by decide) ?_
      exact ih _ _ _ _ _ _ hm _ _ _ hP hD hS (lv_sub hl [2, 1, 0] rfl)
def m_Model_sum (n : Nat) (i : Nat → Int32) (j : Nat → Int64) (a : Nat → Nat → Int32) (b : Nat → Nat → Int64)  : Option ((Nat → Int32) × (Nat → Int64) × (Nat → Nat → Int32) × (Nat → Nat → Int64) × Int32) := ob1 (upd i 0 0 : Nat → Int32) (fun i_1 => m_Model_sum_b9 n n i_1 j a b (0 : Int32) (0 : Int32))
set_option maxHeartbeats 4000000 in
set_option maxRecDepth 100000 in
theorem x_Model_sum (l : Launch) (dC : Nat → ClassId) (dI : Nat → Nat → Nat) (cI cJ cB : ClassId) (adK adV adA : Nat → Nat) (h : Nat) (v : Nat → Nat) (sz : Nat) (n : Nat) {i : Nat → Int32} {j : Nat → Int64} {a : Nat → Nat → Int32} {b : Nat → Nat → Int64}  {i2 : Nat → Int32} {j2 : Nat → Int64} {a2 : Nat → Nat → Int32} {b2 : Nat → Nat → Int64} {r2 : Int32} (hm : m_Model_sum n i j a b = some (i2, j2, a2, b2, r2)) : Met l y_Model_sum w_Model_sum ({ frames := 1, cells := 0, slots := 0, locals := 21 } : Room) (va_Pc [.ref h] (yE dC dI cI cJ cB adK adV adA h v i j a b sz)) (va_Qi (xR r2) (yB dC dI cI cJ cB h v i2 j2 a2 b2 (va_A (MW cI cJ cB h v i j a b) sz)) (va_A (MW cI cJ cB h v i j a b) sz)) 0 0 ((va_A (MW cI cJ cB h v i j a b) sz)) := by
  refine Met.ofW (cc := b_Model_sum) (maxL := 4) (ret := (some .int)) (by decide) rfl ?_
  intro p e s m args below meth c s₁ B hml hv
  obtain ⟨rfl, hsz, hP, hK, hE, hD0⟩ := hv
  have hx := B.exec
  have hb := B.bytes
  have hr := B.returns
  have hts := atoms_spec (ws := w_Model_sum) B.pre
  have htt : ∀ w ∈ tw_T, w.before _ s = true := fun w h => hts w (List.mem_cons_of_mem _ h)
  have hown : s.vm.findClass R_Model = some m.cls := findClass_of_methodNamed B.named
  have hlocks := B.notSynchronized
  subst hsz
  have hD := hD0.self (sz := s.heap.size)
  generalize hAe : (va_A (MW cI cJ cB h v i j a b) s.heap.size) = A at hD hE ⊢
  have hA : ∀ q : Nat, s.heap.size ≤ q → A q := fun q h => by rw [← hAe]; exact Or.inr h
  have hS : va_S A s.heap s.heap [] := va_S.rf
  have hl := lv_entry ([.ref h]) (n := 4) (Nat.le_of_ble_eq_true rfl)
  rw [lg_entry_eq]
  generalize (lg_sl ([.ref h]) ++ List.replicate (4 - (lg_sl ([.ref h])).length) Slot.unset).toArray = ls at hl ⊢
  have hl : lv_has ls 4 [(0, .ref h)] := hl
  rw [m_Model_sum] at hm
  refine lv_aload_n hx hb d_Model_sum_0 rfl (lv_at hl 0 rfl) ?_
  refine lv_iconst (v := 0) hx hb d_Model_sum_1 (by decide) ?_
  refine va_put (D := (dC, dI)) (ci := 12) (v := .int 0) (ty := .int) (C := R_Model) (T := F_Model) (N := 127) hx hb htt iw_Model t_Model t_Model_ok n_Model hown hK hP hD hS 0 yo_12 rfl 0 (Nat.le_of_ble_eq_true rfl) (htt _ lk_Model_1) (fun _ h9 => h9) rfl (by decide +kernel) rfl rfl yl_0 d_Model_sum_2 (fun H locs hP hD hS => ?_)
  obtain ⟨i_1, ei_1⟩ : ∃ y9 : Nat → Int32, y9 = upd i 0 0 := ⟨_, rfl⟩
  replace hm := ob1_at ei_1 hm
  obtain ⟨hP, hD⟩ := yw_0 ei_1 hP hD
  refine lv_iconst (v := 0) hx hb d_Model_sum_5 (by decide) ?_
  refine lv_istore_n (lv' := [(1, .int 0), (0, .ref h)]) hx hb d_Model_sum_6 rfl hl (by decide) rfl (fun ls hl => ?_)
  refine lv_iconst (v := 0) hx hb d_Model_sum_7 (by decide) ?_
  refine lv_istore_n (lv' := [(2, .int 0), (1, .int 0), (0, .ref h)]) hx hb d_Model_sum_8 rfl hl (by decide) rfl (fun ls hl => ?_)
  exact lb_Model_sum_9 l dC dI cI cJ cB adK adV adA h v n hx hb hml hown hts hK hE hA hr hlocks n _ _ _ _ _ _ hm _ _ _ hP hD hS (lv_sub hl [2, 1, 0] rfl)

def m_Model_isName_b34 (n : Nat) (i : Nat → Int32) (j : Nat → Int64) (a : Nat → Nat → Int32) (b : Nat → Nat → Int64) (v1 : Int32) (v2 : Int32) (s0 : Int32) : Option ((Nat → Int32) × (Nat → Int64) × (Nat → Nat → Int32) × (Nat → Nat → Int64) × Int32) := if s0 = ((0 : Int32)) then if v2 = ((34 : Int32)) then some (i, j, a, b, 0) else if v2 = ((58 : Int32)) then some (i, j, a, b, 0) else ob0 (m_Model_isText n i j a b v1 (9 : Nat)) (fun r_5 => if r_5 = ((0 : Int32)) then ob0 (m_Model_isText n i j a b v1 (10 : Nat)) (fun r_8 => if r_8 = ((0 : Int32)) then om (m_Model_primitive n i j a b v1) (fun i_11 j_12 a_13 b_14 r_15 => if r_15 = ((-1 : Int32)) then some (i_11, j_12, a_13, b_14, 1) else some (i_11, j_12, a_13, b_14, 0)) else some (i, j, a, b, 0)) else some (i, j, a, b, 0)) else some (i, j, a, b, 0)
set_option maxHeartbeats 4000000 in
set_option maxRecDepth 100000 in
theorem lb_Model_isName_34 (l : Launch) (dC : Nat → ClassId) (dI : Nat → Nat → Nat) (cI cJ cB : ClassId) (adK adV adA : Nat → Nat) (h : Nat) (v : Nat → Nat) (n : Nat) {p : Program} {e : Env} {s : State} {m : MethodId} {args : Array Value} {below : List Frame} {meth : Method} {c : Code} {A : Nat → Prop} (hx : p.tables.exec = Jvm.exec) (hb : c.code = b_Model_isName) (hml : c.maxLocals = 4) (hown : s.vm.findClass R_Model = some m.cls) (hts : ∀ w ∈ w_Model_isName, w.before args s = true) (hK : va_K (dC, dI) classes [(cI, .int), (cJ, .long), (cB, .byte)] s) (hE : tw_E adK adV adA A s s.heap) (hA : ∀ q : Nat, s.heap.size ≤ q → A q) (hr : meth.sig.returnType = (some .boolean)) (hlocks : meth.locks = false) {i2 : Nat → Int32} {j2 : Nat → Int64} {a2 : Nat → Nat → Int32} {b2 : Nat → Nat → Int64} {r2 : Int32} (i : Nat → Int32) (j : Nat → Int64) (a : Nat → Nat → Int32) (b : Nat → Nat → Int64) (v1 : Int32) (v2 : Int32) (s0 : Int32) (hm : m_Model_isName_b34 n i j a b v1 v2 s0 = some (i2, j2, a2, b2, r2)) : ∀ (H : Heap) (locs : List Loc) (ls : Array Slot), va_P (dC, dI) classes (MW cI cJ cB h v i j a b) H → va_D A (MW cI cJ cB h v i j a b) → va_S A s.heap H locs → lv_has ls 4 [(0, .ref h), (1, .int v1), (2, .int v2)] → W p l e ({ frames := 5, cells := 0, slots := 0, locals := 111 } : Room) s m args below meth c H locs 0 0 (MQ below (va_Qi (xR r2) (yB dC dI cI cJ cB h v i2 j2 a2 b2 A) A) args s 0 0 A) (F0 m 34 ls [.int s0]) := by
  have htt : ∀ w ∈ tw_T, w.before _ s = true := fun w h => hts w (List.mem_cons_of_mem _ h)
  intro H locs ls hP hD hS hl
  rw [m_Model_isName_b34] at hm
  refine lv_istore_n (lv' := [(3, .int s0), (0, .ref h), (1, .int v1), (2, .int v2)]) hx hb d_Model_isName_34 rfl hl (by decide) rfl (fun ls hl => ?_)
  refine lv_iload_n hx hb d_Model_isName_35 rfl (lv_at hl 0 rfl) ?_
  refine lv_if_ne (tgt := 86) hx hb d_Model_isName_36 (by decide) (fun c_1 => ?_) (fun c_1 => ?_)
  · replace hm := if_f c_1 hm
    refine lv_iconst (v := 0) hx hb d_Model_isName_86 (by decide) ?_
    obtain ⟨e1i, e1j, e1a, e1b, e3⟩ := re4m hm
    obtain ⟨hP, hD⟩ := y_eq e1i e1j e1a e1b hP hD
    exact W.zret hx hb hr (by decide) (fun t9 ht hW => ⟨⟨_, (), rfl, e3.symm, by rw [ht]; exact hP, hD⟩, hS.F ht⟩) hS.2.2 d_Model_isName_87
  · replace hm := if_t c_1 hm
    refine lv_iload_n hx hb d_Model_isName_39 rfl (lv_at hl 3 rfl) ?_
    refine lv_bipush (v := 34) hx hb d_Model_isName_40 (by decide) ?_
    refine lv_icmp_eq (tgt := 86) hx hb d_Model_isName_42 (by decide) (fun c_2 => ?_) (fun c_2 => ?_)
    · replace hm := if_t c_2 hm
      refine lv_iconst (v := 0) hx hb d_Model_isName_86 (by decide) ?_
      obtain ⟨e1i, e1j, e1a, e1b, e3⟩ := re4m hm
      obtain ⟨hP, hD⟩ := y_eq e1i e1j e1a e1b hP hD
      exact W.zret hx hb hr (by decide) (fun t9 ht hW => ⟨⟨_, (), rfl, e3.symm, by rw [ht]; exact hP, hD⟩, hS.F ht⟩) hS.2.2 d_Model_isName_87
    · replace hm := if_f c_2 hm
      refine lv_iload_n hx hb d_Model_isName_45 rfl (lv_at hl 3 rfl) ?_
      refine lv_bipush (v := 58) hx hb d_Model_isName_46 (by decide) ?_
      refine lv_icmp_eq (tgt := 86) hx hb d_Model_isName_48 (by decide) (fun c_3 => ?_) (fun c_3 => ?_)
      · replace hm := if_t c_3 hm
        refine lv_iconst (v := 0) hx hb d_Model_isName_86 (by decide) ?_
        obtain ⟨e1i, e1j, e1a, e1b, e3⟩ := re4m hm
        obtain ⟨hP, hD⟩ := y_eq e1i e1j e1a e1b hP hD
        exact W.zret hx hb hr (by decide) (fun t9 ht hW => ⟨⟨_, (), rfl, e3.symm, by rw [ht]; exact hP, hD⟩, hS.F ht⟩) hS.2.2 d_Model_isName_87
      · replace hm := if_f c_3 hm
        refine lv_aload_n hx hb d_Model_isName_51 rfl (lv_at hl 1 rfl) ?_
        refine lv_iload_n hx hb d_Model_isName_52 rfl (lv_at hl 2 rfl) ?_
        refine tw_ldcwS hx hb hown (show vk_R "TurtleWorldModel" 471 _ (adK 9) s from hE.ref 9 (by decide)) d_Model_isName_53 ?_
        obtain ⟨r_5, h_4, hm⟩ := ob0_some hm
        have hFc := x_free0 hS hA
        refine va_calli (va_runV (As := [.int v1, .ref (adK 9)]) (rest := []) ⟨hx, hb, hml, hown, hts⟩ (x_Model_isText l dC dI cI cJ cB adK adV adA h v H.size n h_4) (cwV 2 hts (tw_GV tw_cons cw_Model_isText lk_Model_473 in_Model_isText sel_Model_isText ini_Model) rfl rfl rfl ⟨rfl, hd_Model_isText⟩ ⟨Nat.le_of_ble_eq_true rfl, Nat.le_of_ble_eq_true rfl⟩) (ypVr hK hP hS hE hFc yo_12 rfl) rfl rfl hl.1 rfl (lv_room (Nat.le_of_ble_eq_true rfl)) d_Model_isName_56 ⟨Nat.le_of_ble_eq_true rfl, Nat.le_of_ble_eq_true rfl⟩) hS (fun q _ h => hFc q h) hFc (fun r9 u9 t9 H locs ht hvm e9 hB hz1 hk1 hS => ?_)
        have e9 : r_5 = r9 := e9
        subst e9
        replace hP := x_keep hP hk1
        clear hFc hk1 hz1 hvm hB ht
        refine lv_if_ne (tgt := 86) hx hb d_Model_isName_59 (by decide) (fun c_6 => ?_) (fun c_6 => ?_)
        · replace hm := if_f c_6 hm
          refine lv_iconst (v := 0) hx hb d_Model_isName_86 (by decide) ?_
          obtain ⟨e1i, e1j, e1a, e1b, e3⟩ := re4m hm
          obtain ⟨hP, hD⟩ := y_eq e1i e1j e1a e1b hP hD
          exact W.zret hx hb hr (by decide) (fun t9 ht hW => ⟨⟨_, (), rfl, e3.symm, by rw [ht]; exact hP, hD⟩, hS.F ht⟩) hS.2.2 d_Model_isName_87
        · replace hm := if_t c_6 hm
          refine lv_aload_n hx hb d_Model_isName_62 rfl (lv_at hl 1 rfl) ?_
          refine lv_iload_n hx hb d_Model_isName_63 rfl (lv_at hl 2 rfl) ?_
          refine tw_ldcwS hx hb hown (show vk_R "TurtleWorldModel" 477 _ (adK 10) s from hE.ref 10 (by decide)) d_Model_isName_64 ?_
          obtain ⟨r_8, h_7, hm⟩ := ob0_some hm
          have hFc := x_free0 hS hA
          refine va_calli (va_runV (As := [.int v1, .ref (adK 10)]) (rest := []) ⟨hx, hb, hml, hown, hts⟩ (x_Model_isText l dC dI cI cJ cB adK adV adA h v H.size n h_7) (cwV 2 hts (tw_GV tw_cons cw_Model_isText lk_Model_473 in_Model_isText sel_Model_isText ini_Model) rfl rfl rfl ⟨rfl, hd_Model_isText⟩ ⟨Nat.le_of_ble_eq_true rfl, Nat.le_of_ble_eq_true rfl⟩) (ypVr hK hP hS hE hFc yo_12 rfl) rfl rfl hl.1 rfl (lv_room (Nat.le_of_ble_eq_true rfl)) d_Model_isName_67 ⟨Nat.le_of_ble_eq_true rfl, Nat.le_of_ble_eq_true rfl⟩) hS (fun q _ h => hFc q h) hFc (fun r9 u9 t9 H locs ht hvm e9 hB hz1 hk1 hS => ?_)
          have e9 : r_8 = r9 := e9
          subst e9
          replace hP := x_keep hP hk1
          clear hFc hk1 hz1 hvm hB ht
          refine lv_if_ne (tgt := 86) hx hb d_Model_isName_70 (by decide) (fun c_9 => ?_) (fun c_9 => ?_)
          · replace hm := if_f c_9 hm
            refine lv_iconst (v := 0) hx hb d_Model_isName_86 (by decide) ?_
            obtain ⟨e1i, e1j, e1a, e1b, e3⟩ := re4m hm
            obtain ⟨hP, hD⟩ := y_eq e1i e1j e1a e1b hP hD
            exact W.zret hx hb hr (by decide) (fun t9 ht hW => ⟨⟨_, (), rfl, e3.symm, by rw [ht]; exact hP, hD⟩, hS.F ht⟩) hS.2.2 d_Model_isName_87
          · replace hm := if_t c_9 hm
            refine lv_aload_n hx hb d_Model_isName_73 rfl (lv_at hl 1 rfl) ?_
            refine lv_iload_n hx hb d_Model_isName_74 rfl (lv_at hl 2 rfl) ?_
            obtain ⟨i_11, j_12, a_13, b_14, r_15, h_10, hm⟩ := om_some hm
            have hFc := x_free hD hS hA
            refine va_calli (va_runV (As := [.int v1]) (rest := []) ⟨hx, hb, hml, hown, hts⟩ (x_Model_primitive l dC dI cI cJ cB adK adV adA h v H.size n h_10) (cwV 1 hts (tw_GV tw_cons cw_Model_primitive lk_Model_479 in_Model_primitive sel_Model_primitive ini_Model) rfl rfl rfl ⟨rfl, hd_Model_primitive⟩ ⟨Nat.le_of_ble_eq_true rfl, Nat.le_of_ble_eq_true rfl⟩) (ypV hK hP hD hS hE hFc yo_12 rfl) rfl rfl hl.1 rfl (lv_room (Nat.le_of_ble_eq_true rfl)) d_Model_isName_75 ⟨Nat.le_of_ble_eq_true rfl, Nat.le_of_ble_eq_true rfl⟩) hS (fun q _ h => hFc q h) hFc (fun r9 u9 t9 H locs ht hvm e9 hB hz1 hk1 hS => ?_)
            have e9 : r_15 = r9 := e9
            subst e9
            obtain ⟨hP, hD⟩ := y_aft hB ht hFc
            clear hFc hk1 hz1 hvm hB ht
            refine lv_iconst (v := -1) hx hb d_Model_isName_78 (by decide) ?_
            refine lv_icmp_ne (tgt := 86) hx hb d_Model_isName_79 (by decide) (fun c_16 => ?_) (fun c_16 => ?_)
            · replace hm := if_f c_16 hm
              refine lv_iconst (v := 0) hx hb d_Model_isName_86 (by decide) ?_
              obtain ⟨e1i, e1j, e1a, e1b, e3⟩ := re4m hm
              obtain ⟨hP, hD⟩ := y_eq e1i e1j e1a e1b hP hD
              exact W.zret hx hb hr (by decide) (fun t9 ht hW => ⟨⟨_, (), rfl, e3.symm, by rw [ht]; exact hP, hD⟩, hS.F ht⟩) hS.2.2 d_Model_isName_87
            · replace hm := if_t c_16 hm
              refine lv_iconst (v := 1) hx hb d_Model_isName_82 (by decide) ?_
              refine lv_goto (tgt := 87) hx hb d_Model_isName_83 (by decide) ?_
              obtain ⟨e1i, e1j, e1a, e1b, e3⟩ := re4m hm
              obtain ⟨hP, hD⟩ := y_eq e1i e1j e1a e1b hP hD
              exact W.zret hx hb hr (by decide) (fun t9 ht hW => ⟨⟨_, (), rfl, e3.symm, by rw [ht]; exact hP, hD⟩, hS.F ht⟩) hS.2.2 d_Model_isName_87
def m_Model_isName_b33 (n : Nat) (i : Nat → Int32) (j : Nat → Int64) (a : Nat → Nat → Int32) (b : Nat → Nat → Int64) (v1 : Int32) (v2 : Int32) : Option ((Nat → Int32) × (Nat → Int64) × (Nat → Nat → Int32) × (Nat → Nat → Int64) × Int32) := m_Model_isName_b34 n i j a b v1 v2 (0 : Int32)
set_option maxHeartbeats 4000000 in
set_option maxRecDepth 100000 in
theorem lb_Model_isName_33 (l : Launch) (dC : Nat → ClassId) (dI : Nat → Nat → Nat) (cI cJ cB : ClassId) (adK adV adA : Nat → Nat) (h : Nat) (v : Nat → Nat) (n : Nat) {p : Program} {e : Env} {s : State} {m : MethodId} {args : Array Value} {below : List Frame} {meth : Method} {c : Code} {A : Nat → Prop} (hx : p.tables.exec = Jvm.exec) (hb : c.code = b_Model_isName) (hml : c.maxLocals = 4) (hown : s.vm.findClass R_Model = some m.cls) (hts : ∀ w ∈ w_Model_isName, w.before args s = true) (hK : va_K (dC, dI) classes [(cI, .int), (cJ, .long), (cB, .byte)] s) (hE : tw_E adK adV adA A s s.heap) (hA : ∀ q : Nat, s.heap.size ≤ q → A q) (hr : meth.sig.returnType = (some .boolean)) (hlocks : meth.locks = false) {i2 : Nat → Int32} {j2 : Nat → Int64} {a2 : Nat → Nat → Int32} {b2 : Nat → Nat → Int64} {r2 : Int32} (i : Nat → Int32) (j : Nat → Int64) (a : Nat → Nat → Int32) (b : Nat → Nat → Int64) (v1 : Int32) (v2 : Int32) (hm : m_Model_isName_b33 n i j a b v1 v2 = some (i2, j2, a2, b2, r2)) : ∀ (H : Heap) (locs : List Loc) (ls : Array Slot), va_P (dC, dI) classes (MW cI cJ cB h v i j a b) H → va_D A (MW cI cJ cB h v i j a b) → va_S A s.heap H locs → lv_has ls 4 [(0, .ref h), (1, .int v1), (2, .int v2)] → W p l e ({ frames := 5, cells := 0, slots := 0, locals := 111 } : Room) s m args below meth c H locs 0 0 (MQ below (va_Qi (xR r2) (yB dC dI cI cJ cB h v i2 j2 a2 b2 A) A) args s 0 0 A) (F0 m 33 ls []) := by
  have htt : ∀ w ∈ tw_T, w.before _ s = true := fun w h => hts w (List.mem_cons_of_mem _ h)
  intro H locs ls hP hD hS hl
  rw [m_Model_isName_b33] at hm
  refine lv_iconst (v := 0) hx hb d_Model_isName_33 (by decide) ?_
  exact lb_Model_isName_34 l dC dI cI cJ cB adK adV adA h v n hx hb hml hown hts hK hE hA hr hlocks _ _ _ _ _ _ _ hm _ _ _ hP hD hS (lv_sub hl [0, 1, 2] rfl)
def m_Model_isName (n : Nat) (i : Nat → Int32) (j : Nat → Int64) (a : Nat → Nat → Int32) (b : Nat → Nat → Int64) (v1 : Int32) : Option ((Nat → Int32) × (Nat → Int64) × (Nat → Nat → Int32) × (Nat → Nat → Int64) × Int32) := ck v1 120000 (ck ((a 3 v1.toNatClampNeg)) 300000 (ob1 (a 1 (a 3 v1.toNatClampNeg).toNatClampNeg : Int32) (fun x_3 => ck v1 120000 (if ((a 4 v1.toNatClampNeg)) = ((1 : Int32)) then ob0 (m_Model_isSingle n x_3) (fun r_7 => if r_7 = ((0 : Int32)) then m_Model_isName_b33 n i j a b v1 x_3 else m_Model_isName_b34 n i j a b v1 x_3 (1 : Int32)) else m_Model_isName_b33 n i j a b v1 x_3))))
set_option maxHeartbeats 4000000 in
set_option maxRecDepth 100000 in
theorem x_Model_isName (l : Launch) (dC : Nat → ClassId) (dI : Nat → Nat → Nat) (cI cJ cB : ClassId) (adK adV adA : Nat → Nat) (h : Nat) (v : Nat → Nat) (sz : Nat) (n : Nat) {i : Nat → Int32} {j : Nat → Int64} {a : Nat → Nat → Int32} {b : Nat → Nat → Int64} {v1 : Int32} {i2 : Nat → Int32} {j2 : Nat → Int64} {a2 : Nat → Nat → Int32} {b2 : Nat → Nat → Int64} {r2 : Int32} (hm : m_Model_isName n i j a b v1 = some (i2, j2, a2, b2, r2)) : Met l y_Model_isName w_Model_isName ({ frames := 5, cells := 0, slots := 0, locals := 111 } : Room) (va_Pc [.ref h, .int v1] (yE dC dI cI cJ cB adK adV adA h v i j a b sz)) (va_Qi (xR r2) (yB dC dI cI cJ cB h v i2 j2 a2 b2 (va_A (MW cI cJ cB h v i j a b) sz)) (va_A (MW cI cJ cB h v i j a b) sz)) 0 0 ((va_A (MW cI cJ cB h v i j a b) sz)) := by
  refine Met.ofW (cc := b_Model_isName) (maxL := 4) (ret := (some .boolean)) (by decide) rfl ?_
  intro p e s m args below meth c s₁ B hml hv
  obtain ⟨rfl, hsz, hP, hK, hE, hD0⟩ := hv
  have hx := B.exec
  have hb := B.bytes
  have hr := B.returns
  have hts := atoms_spec (ws := w_Model_isName) B.pre
  have htt : ∀ w ∈ tw_T, w.before _ s = true := fun w h => hts w (List.mem_cons_of_mem _ h)
  have hown : s.vm.findClass R_Model = some m.cls := findClass_of_methodNamed B.named
  have hlocks := B.notSynchronized
  subst hsz
  have hD := hD0.self (sz := s.heap.size)
  generalize hAe : (va_A (MW cI cJ cB h v i j a b) s.heap.size) = A at hD hE ⊢
  have hA : ∀ q : Nat, s.heap.size ≤ q → A q := fun q h => by rw [← hAe]; exact Or.inr h
  have hS : va_S A s.heap s.heap [] := va_S.rf
  have hl := lv_entry ([.ref h, .int v1]) (n := 4) (Nat.le_of_ble_eq_true rfl)
  rw [lg_entry_eq]
  generalize (lg_sl ([.ref h, .int v1]) ++ List.replicate (4 - (lg_sl ([.ref h, .int v1])).length) Slot.unset).toArray = ls at hl ⊢
  have hl : lv_has ls 4 [(0, .ref h), (1, .int v1)] := hl
  rw [m_Model_isName] at hm
  refine lv_aload_n hx hb d_Model_isName_0 rfl (lv_at hl 0 rfl) ?_
  refine va_get (D := (dC, dI)) (ci := 12) (v := .ref ((v 1))) (C := R_Model) (T := F_Model) (N := 127) hx hb htt iw_Model hown hK hP 0 yo_12 rfl 1 (Nat.le_of_ble_eq_true rfl) (htt _ lk_Model_67) (fun _ h9 => h9) yg_1 d_Model_isName_1 ?_
  refine lv_aload_n hx hb d_Model_isName_4 rfl (lv_at hl 0 rfl) ?_
  refine va_get (D := (dC, dI)) (ci := 12) (v := .ref ((v 3))) (C := R_Model) (T := F_Model) (N := 127) hx hb htt iw_Model hown hK hP 0 yo_12 rfl 3 (Nat.le_of_ble_eq_true rfl) (htt _ lk_Model_15) (fun _ h9 => h9) yg_3 d_Model_isName_5 ?_
  refine lv_iload_n hx hb d_Model_isName_8 rfl (lv_at hl 1 rfl) ?_
  obtain ⟨h_1, hm⟩ := ck_some hm
  refine va_iald hx hb hK hP 3 0 ya_3 rfl h_1 d_Model_isName_9 ?_
  obtain ⟨h_2, hm⟩ := ck_some hm
  refine va_bald hx hb hK hP 1 2 ya_1 rfl h_2 d_Model_isName_10 ?_
  refine lv_topi (fun x_3 ex_3 => ?_)
  replace hm := ob1_at ex_3 hm
  refine lv_istore_n (lv' := [(2, .int x_3), (0, .ref h), (1, .int v1)]) hx hb d_Model_isName_11 rfl hl (by decide) rfl (fun ls hl => ?_)
  refine lv_aload_n hx hb d_Model_isName_12 rfl (lv_at hl 1 rfl) ?_
  refine va_get (D := (dC, dI)) (ci := 12) (v := .ref ((v 4))) (C := R_Model) (T := F_Model) (N := 127) hx hb htt iw_Model hown hK hP 0 yo_12 rfl 4 (Nat.le_of_ble_eq_true rfl) (htt _ lk_Model_22) (fun _ h9 => h9) yg_4 d_Model_isName_13 ?_
  refine lv_iload_n hx hb d_Model_isName_16 rfl (lv_at hl 2 rfl) ?_
  obtain ⟨h_4, hm⟩ := ck_some hm
  refine va_iald hx hb hK hP 4 0 ya_4 rfl h_4 d_Model_isName_17 ?_
  refine lv_iconst (v := 1) hx hb d_Model_isName_18 (by decide) ?_
  refine lv_icmp_ne (tgt := 33) hx hb d_Model_isName_19 (by decide) (fun c_5 => ?_) (fun c_5 => ?_)
  · replace hm := if_f c_5 hm
    exact lb_Model_isName_33 l dC dI cI cJ cB adK adV adA h v n hx hb hml hown hts hK hE hA hr hlocks _ _ _ _ _ _ hm _ _ _ hP hD hS (lv_sub hl [1, 2, 0] rfl)
  · replace hm := if_t c_5 hm
    refine lv_iload_n hx hb d_Model_isName_22 rfl (lv_at hl 0 rfl) ?_
    obtain ⟨r_7, h_6, hm⟩ := ob0_some hm
    have hFc := x_free0 hS hA
    refine va_calli (va_runS (As := [.int x_3]) (rest := []) ⟨hx, hb, hml, hown, hts⟩ (x_Model_isSingle l s.heap.size n h_6) (va_cwS 1 hts (tw_GS tw_cons cw_Model_isSingle lk_Model_441 st_Model_isSingle ini_Model) rfl rfl rfl hd_Model_isSingle ⟨Nat.le_of_ble_eq_true rfl, Nat.le_of_ble_eq_true rfl⟩) xpS0 rfl rfl hl.1 rfl (lv_room (Nat.le_of_ble_eq_true rfl)) d_Model_isName_23 ⟨Nat.le_of_ble_eq_true rfl, Nat.le_of_ble_eq_true rfl⟩) hS (fun q _ h => hFc q h) hFc (fun r9 u9 t9 H locs ht hvm e9 hB hz1 hk1 hS => ?_)
    have e9 : r_7 = r9 := e9
    subst e9
    replace hP := x_keep hP hk1
    clear hFc hk1 hz1 hvm hB ht
    refine lv_if_eq (tgt := 33) hx hb d_Model_isName_26 (by decide) (fun c_8 => ?_) (fun c_8 => ?_)
    · replace hm := if_t c_8 hm
      exact lb_Model_isName_33 l dC dI cI cJ cB adK adV adA h v n hx hb hml hown hts hK hE hA hr hlocks _ _ _ _ _ _ hm _ _ _ hP hD hS (lv_sub hl [1, 2, 0] rfl)
    · replace hm := if_f c_8 hm
      refine lv_iconst (v := 1) hx hb d_Model_isName_29 (by decide) ?_
      refine lv_goto (tgt := 34) hx hb d_Model_isName_30 (by decide) ?_
      exact lb_Model_isName_34 l dC dI cI cJ cB adK adV adA h v n hx hb hml hown hts hK hE hA hr hlocks _ _ _ _ _ _ _ hm _ _ _ hP hD hS (lv_sub hl [1, 2, 0] rfl)

def m_Model_procedureOf_b2 (n : Nat) (i : Nat → Int32) (j : Nat → Int64) (a : Nat → Nat → Int32) (b : Nat → Nat → Int64) : Nat → Int32 → Int32 → Option (Int32)
  | 0, _, _ => none
  | f + 1, v1, v2 => if ((i 33)) ≤ v2 then some ((-1)) else ck v2 40 (ob0 (m_Model_sameWord n i j a b (a 29 v2.toNatClampNeg) v1) (fun r_4 => if r_4 = ((0 : Int32)) then ob1 (v2 + 1 : Int32) (fun x_6 => m_Model_procedureOf_b2 n i j a b f v1 x_6) else some v2))
set_option maxHeartbeats 4000000 in
set_option maxRecDepth 100000 in
theorem lb_Model_procedureOf_2 (l : Launch) (dC : Nat → ClassId) (dI : Nat → Nat → Nat) (cI cJ cB : ClassId) (adK adV adA : Nat → Nat) (h : Nat) (v : Nat → Nat) (n : Nat) {p : Program} {e : Env} {s : State} {m : MethodId} {args : Array Value} {below : List Frame} {meth : Method} {c : Code} {A : Nat → Prop} (hx : p.tables.exec = Jvm.exec) (hb : c.code = b_Model_procedureOf) (hml : c.maxLocals = 3) (hown : s.vm.findClass R_Model = some m.cls) (hts : ∀ w ∈ w_Model_procedureOf, w.before args s = true) (hK : va_K (dC, dI) classes [(cI, .int), (cJ, .long), (cB, .byte)] s) (hE : tw_E adK adV adA A s s.heap) (hA : ∀ q : Nat, s.heap.size ≤ q → A q) (hr : meth.sig.returnType = (some .int)) (hlocks : meth.locks = false) {i : Nat → Int32} {j : Nat → Int64} {a : Nat → Nat → Int32} {b : Nat → Nat → Int64} {r2 : Int32} : ∀ (f : Nat) (v1 : Int32) (v2 : Int32), m_Model_procedureOf_b2 n i j a b f v1 v2 = some r2 → ∀ (H : Heap) (locs : List Loc) (ls : Array Slot), va_P (dC, dI) classes (MW cI cJ cB h v i j a b) H → va_S A s.heap H locs → lv_has ls 3 [(0, .ref h), (1, .int v1), (2, .int v2)] → W p l e ({ frames := 2, cells := 0, slots := 0, locals := 47 } : Room) s m args below meth c H locs 0 0 (MQ below (va_Qi (xR r2) xT A) args s 0 0 A) (F0 m 2 ls []) := by
  have htt : ∀ w ∈ tw_T, w.before _ s = true := fun w h => hts w (List.mem_cons_of_mem _ h)
  intro f
  induction f with
  | zero =>
    intro v1 v2 hm
    rw [m_Model_procedureOf_b2] at hm
    cases hm
  | succ f ih =>
    intro v1 v2 hm H locs ls hP hS hl
    rw [m_Model_procedureOf_b2] at hm
    refine lv_iload_n hx hb d_Model_procedureOf_2 rfl (lv_at hl 2 rfl) ?_
    refine lv_aload_n hx hb d_Model_procedureOf_3 rfl (lv_at hl 0 rfl) ?_
    refine va_get (D := (dC, dI)) (ci := 12) (v := .int (i 33)) (C := R_Model) (T := F_Model) (N := 127) hx hb htt iw_Model hown hK hP 0 yo_12 rfl 33 (Nat.le_of_ble_eq_true rfl) (htt _ lk_Model_344) (fun _ h9 => h9) yg_33 d_Model_procedureOf_4 ?_
    refine lv_icmp_ge (tgt := 32) hx hb d_Model_procedureOf_7 (by decide) (fun c_1 => ?_) (fun c_1 => ?_)
    · replace hm := if_t c_1 hm
      refine lv_iconst (v := -1) hx hb d_Model_procedureOf_32 (by decide) ?_
      have e3 := re1 hm
      exact W.iret hx hb hr (fun t9 ht hW => ⟨⟨_, (), rfl, e3.symm, trivial⟩, hS.F ht⟩) hS.2.2 d_Model_procedureOf_33
    · replace hm := if_f c_1 hm
      refine lv_aload_n hx hb d_Model_procedureOf_10 rfl (lv_at hl 0 rfl) ?_
      refine lv_aload_n hx hb d_Model_procedureOf_11 rfl (lv_at hl 0 rfl) ?_
      refine va_get (D := (dC, dI)) (ci := 12) (v := .ref ((v 29))) (C := R_Model) (T := F_Model) (N := 127) hx hb htt iw_Model hown hK hP 0 yo_12 rfl 29 (Nat.le_of_ble_eq_true rfl) (htt _ lk_Model_183) (fun _ h9 => h9) yg_29 d_Model_procedureOf_12 ?_
      refine lv_iload_n hx hb d_Model_procedureOf_15 rfl (lv_at hl 2 rfl) ?_
      obtain ⟨h_2, hm⟩ := ck_some hm
      refine va_iald hx hb hK hP 23 0 ya_29 rfl h_2 d_Model_procedureOf_16 ?_
      refine lv_iload_n hx hb d_Model_procedureOf_17 rfl (lv_at hl 1 rfl) ?_
      obtain ⟨r_4, h_3, hm⟩ := ob0_some hm
      have hFc := x_free0 hS hA
      refine va_calli (va_runV (As := [.int (a 29 v2.toNatClampNeg), .int v1]) (rest := []) ⟨hx, hb, hml, hown, hts⟩ (x_Model_sameWord l dC dI cI cJ cB adK adV adA h v H.size n h_3) (cwV 2 hts (tw_GV tw_cons cw_Model_sameWord lk_Model_91 in_Model_sameWord sel_Model_sameWord ini_Model) rfl rfl rfl ⟨rfl, hd_Model_sameWord⟩ ⟨Nat.le_of_ble_eq_true rfl, Nat.le_of_ble_eq_true rfl⟩) (ypVr hK hP hS hE hFc yo_12 rfl) rfl rfl hl.1 rfl (lv_room (Nat.le_of_ble_eq_true rfl)) d_Model_procedureOf_18 ⟨Nat.le_of_ble_eq_true rfl, Nat.le_of_ble_eq_true rfl⟩) hS (fun q _ h => hFc q h) hFc (fun r9 u9 t9 H locs ht hvm e9 hB hz1 hk1 hS => ?_)
      have e9 : r_4 = r9 := e9
      subst e9
      replace hP := x_keep hP hk1
      clear hFc hk1 hz1 hvm hB ht
      refine lv_if_eq (tgt := 26) hx hb d_Model_procedureOf_21 (by decide) (fun c_5 => ?_) (fun c_5 => ?_)
      · replace hm := if_t c_5 hm
        obtain ⟨x_6, ex_6⟩ : ∃ y9 : Int32, y9 = v2 + 1 := ⟨_, rfl⟩
        replace hm := ob1_at ex_6 hm
        refine lv_iinc (v := x_6) (lv' := [(2, .int x_6), (0, .ref h), (1, .int v1)]) hx hb d_Model_procedureOf_26 hl (k := 2) rfl (by rw [ex_6]; rfl) (by decide) rfl (fun ls hl => ?_)
        refine lv_goto (tgt := 2) hx hb d_Model_procedureOf_29 (by decide) ?_
        exact ih _ _ hm _ _ _ hP hS (lv_sub hl [1, 2, 0] rfl)
      · replace hm := if_f c_5 hm
        refine lv_iload_n hx hb d_Model_procedureOf_24 rfl (lv_at hl 2 rfl) ?_
        have e3 := re1 hm
        exact W.iret hx hb hr (fun t9 ht hW => ⟨⟨_, (), rfl, e3.symm, trivial⟩, hS.F ht⟩) hS.2.2 d_Model_procedureOf_25
def m_Model_procedureOf (n : Nat) (i : Nat → Int32) (j : Nat → Int64) (a : Nat → Nat → Int32) (b : Nat → Nat → Int64) (v1 : Int32) : Option (Int32) := m_Model_procedureOf_b2 n i j a b n v1 (0 : Int32)
set_option maxHeartbeats 4000000 in
set_option maxRecDepth 100000 in
theorem x_Model_procedureOf (l : Launch) (dC : Nat → ClassId) (dI : Nat → Nat → Nat) (cI cJ cB : ClassId) (adK adV adA : Nat → Nat) (h : Nat) (v : Nat → Nat) (sz : Nat) (n : Nat) {i : Nat → Int32} {j : Nat → Int64} {a : Nat → Nat → Int32} {b : Nat → Nat → Int64} {v1 : Int32} {r2 : Int32} (hm : m_Model_procedureOf n i j a b v1 = some r2) : Met l y_Model_procedureOf w_Model_procedureOf ({ frames := 2, cells := 0, slots := 0, locals := 47 } : Room) (va_Pc [.ref h, .int v1] (yEr dC dI cI cJ cB adK adV adA h v i j a b sz)) (va_Qi (xR r2) xT (xN sz)) 0 0 (xN sz) := by
  refine Met.ofW (cc := b_Model_procedureOf) (maxL := 3) (ret := (some .int)) (by decide) rfl ?_
  intro p e s m args below meth c s₁ B hml hv
  obtain ⟨rfl, hsz, hP, hK, hE⟩ := hv
  have hx := B.exec
  have hb := B.bytes
  have hr := B.returns
  have hts := atoms_spec (ws := w_Model_procedureOf) B.pre
  have htt : ∀ w ∈ tw_T, w.before _ s = true := fun w h => hts w (List.mem_cons_of_mem _ h)
  have hown : s.vm.findClass R_Model = some m.cls := findClass_of_methodNamed B.named
  have hlocks := B.notSynchronized
  subst hsz
  generalize hAe : xN s.heap.size = A at hE ⊢
  have hA : ∀ q : Nat, s.heap.size ≤ q → A q := fun q h => by rw [← hAe]; exact Or.inr h
  have hS : va_S A s.heap s.heap [] := va_S.rf
  have hl := lv_entry ([.ref h, .int v1]) (n := 3) (Nat.le_of_ble_eq_true rfl)
  rw [lg_entry_eq]
  generalize (lg_sl ([.ref h, .int v1]) ++ List.replicate (3 - (lg_sl ([.ref h, .int v1])).length) Slot.unset).toArray = ls at hl ⊢
  have hl : lv_has ls 3 [(0, .ref h), (1, .int v1)] := hl
  rw [m_Model_procedureOf] at hm
  refine lv_iconst (v := 0) hx hb d_Model_procedureOf_0 (by decide) ?_
  refine lv_istore_n (lv' := [(2, .int 0), (0, .ref h), (1, .int v1)]) hx hb d_Model_procedureOf_1 rfl hl (by decide) rfl (fun ls hl => ?_)
  exact lb_Model_procedureOf_2 l dC dI cI cJ cB adK adV adA h v n hx hb hml hown hts hK hE hA hr hlocks n _ _ hm _ _ _ hP hS (lv_sub hl [1, 2, 0] rfl)

def m_Model_input_b107 (n : Nat) (i : Nat → Int32) (j : Nat → Int64) (a : Nat → Nat → Int32) (b : Nat → Nat → Int64) (v1 : Int32) (v3 : Int32) (v4 : Int32) (v5 : Int32) : Option ((Nat → Int32) × (Nat → Int64) × (Nat → Nat → Int32) × (Nat → Nat → Int64) × Int32) := if v4 = ((0 : Int32)) then ck v3 300 (ck (((5 * v3) + (a 88 v3.toNatClampNeg))) 1500 (ob1 (sv a 89 ((5 * v3) + (a 88 v3.toNatClampNeg)).toNatClampNeg v5 : Nat → Nat → Int32) (fun a_4 => ck v3 300 (ck v3 300 (ob1 (sv a_4 88 v3.toNatClampNeg ((a_4 88 v3.toNatClampNeg) + 1) : Nat → Nat → Int32) (fun a_7 => some (i, j, a_7, b, (0 : Int32)))))))) else ck v1 601 (om (m_Model_fail n i j a b (9 : Int32) (a 77 v1.toNatClampNeg)) (fun i_10 j_11 a_12 b_13 r_14 => some (i_10, j_11, a_12, b_13, (0 : Int32))))
set_option maxHeartbeats 4000000 in
set_option maxRecDepth 100000 in
theorem lb_Model_input_107 (l : Launch) (dC : Nat → ClassId) (dI : Nat → Nat → Nat) (cI cJ cB : ClassId) (adK adV adA : Nat → Nat) (h : Nat) (v : Nat → Nat) (n : Nat) {p : Program} {e : Env} {s : State} {m : MethodId} {args : Array Value} {below : List Frame} {meth : Method} {c : Code} {A : Nat → Prop} (hx : p.tables.exec = Jvm.exec) (hb : c.code = b_Model_input) (hml : c.maxLocals = 7) (hown : s.vm.findClass R_Model = some m.cls) (hts : ∀ w ∈ w_Model_input, w.before args s = true) (hK : va_K (dC, dI) classes [(cI, .int), (cJ, .long), (cB, .byte)] s) (hE : tw_E adK adV adA A s s.heap) (hA : ∀ q : Nat, s.heap.size ≤ q → A q) (hr : meth.sig.returnType = none) (hlocks : meth.locks = false) {i2 : Nat → Int32} {j2 : Nat → Int64} {a2 : Nat → Nat → Int32} {b2 : Nat → Nat → Int64} {r2 : Int32} (i : Nat → Int32) (j : Nat → Int64) (a : Nat → Nat → Int32) (b : Nat → Nat → Int64) (v1 : Int32) (v3 : Int32) (v4 : Int32) (v5 : Int32) (hm : m_Model_input_b107 n i j a b v1 v3 v4 v5 = some (i2, j2, a2, b2, r2)) : ∀ (H : Heap) (locs : List Loc) (ls : Array Slot), va_P (dC, dI) classes (MW cI cJ cB h v i j a b) H → va_D A (MW cI cJ cB h v i j a b) → va_S A s.heap H locs → lv_has ls 7 [(0, .ref h), (1, .int v1), (3, .int v3), (4, .int v4), (5, .int v5)] → W p l e ({ frames := 2, cells := 0, slots := 0, locals := 47 } : Room) s m args below meth c H locs 0 0 (MQ below (va_Qv xV (yB dC dI cI cJ cB h v i2 j2 a2 b2 A) A) args s 0 0 A) (F0 m 107 ls []) := by
  have htt : ∀ w ∈ tw_T, w.before _ s = true := fun w h => hts w (List.mem_cons_of_mem _ h)
  intro H locs ls hP hD hS hl
  rw [m_Model_input_b107] at hm
  refine lv_iload hx hb d_Model_input_107 (lv_at hl 3 rfl) ?_
  refine lv_if_eq (tgt := 125) hx hb d_Model_input_109 (by decide) (fun c_1 => ?_) (fun c_1 => ?_)
  · replace hm := if_t c_1 hm
    refine lv_aload_n hx hb d_Model_input_125 rfl (lv_at hl 0 rfl) ?_
    refine va_get (D := (dC, dI)) (ci := 12) (v := .ref ((v 89))) (C := R_Model) (T := F_Model) (N := 127) hx hb htt iw_Model hown hK hP 0 yo_12 rfl 89 (Nat.le_of_ble_eq_true rfl) (htt _ lk_Model_291) (fun _ h9 => h9) yg_89 d_Model_input_126 ?_
    refine lv_iconst (v := 5) hx hb d_Model_input_129 (by decide) ?_
    refine lv_iload_n hx hb d_Model_input_130 rfl (lv_at hl 2 rfl) ?_
    refine lv_imul hx hb d_Model_input_131 ?_
    refine lv_aload_n hx hb d_Model_input_132 rfl (lv_at hl 0 rfl) ?_
    refine va_get (D := (dC, dI)) (ci := 12) (v := .ref ((v 88))) (C := R_Model) (T := F_Model) (N := 127) hx hb htt iw_Model hown hK hP 0 yo_12 rfl 88 (Nat.le_of_ble_eq_true rfl) (htt _ lk_Model_288) (fun _ h9 => h9) yg_88 d_Model_input_133 ?_
    refine lv_iload_n hx hb d_Model_input_136 rfl (lv_at hl 2 rfl) ?_
    obtain ⟨h_2, hm⟩ := ck_some hm
    refine va_iald hx hb hK hP 57 0 ya_88 rfl h_2 d_Model_input_137 ?_
    refine lv_iadd hx hb d_Model_input_138 ?_
    refine lv_iload hx hb d_Model_input_139 (lv_at hl 4 rfl) ?_
    obtain ⟨h_3, hm⟩ := ck_some hm
    refine va_iast hx hb hK hP hD hS 58 0 ya_89 rfl h_3 d_Model_input_141 (fun H locs hP hD hS => ?_)
    obtain ⟨a_4, ea_4⟩ : ∃ y9 : Nat → Nat → Int32, y9 = sv a 89 ((5 * v3) + (a 88 v3.toNatClampNeg)).toNatClampNeg v5 := ⟨_, rfl⟩
    replace hm := ob1_at ea_4 hm
    obtain ⟨hP, hD⟩ := yv_89 ea_4 hP hD
    refine lv_aload_n hx hb d_Model_input_142 rfl (lv_at hl 0 rfl) ?_
    refine va_get (D := (dC, dI)) (ci := 12) (v := .ref ((v 88))) (C := R_Model) (T := F_Model) (N := 127) hx hb htt iw_Model hown hK hP 0 yo_12 rfl 88 (Nat.le_of_ble_eq_true rfl) (htt _ lk_Model_288) (fun _ h9 => h9) yg_88 d_Model_input_143 ?_
    refine lv_iload_n hx hb d_Model_input_146 rfl (lv_at hl 2 rfl) ?_
    refine lv_dup2_11 hx hb d_Model_input_147 rfl rfl ?_
    obtain ⟨h_5, hm⟩ := ck_some hm
    refine va_iald hx hb hK hP 57 0 ya_88 rfl h_5 d_Model_input_148 ?_
    refine lv_iconst (v := 1) hx hb d_Model_input_149 (by decide) ?_
    refine lv_iadd hx hb d_Model_input_150 ?_
    obtain ⟨h_6, hm⟩ := ck_some hm
    refine va_iast hx hb hK hP hD hS 57 0 ya_88 rfl h_6 d_Model_input_151 (fun H locs hP hD hS => ?_)
    obtain ⟨a_7, ea_7⟩ : ∃ y9 : Nat → Nat → Int32, y9 = sv a_4 88 v3.toNatClampNeg ((a_4 88 v3.toNatClampNeg) + 1) := ⟨_, rfl⟩
    replace hm := ob1_at ea_7 hm
    obtain ⟨hP, hD⟩ := yv_88 ea_7 hP hD
    obtain ⟨e1i, e1j, e1a, e1b, e3⟩ := re4m hm
    obtain ⟨hP, hD⟩ := y_eq e1i e1j e1a e1b hP hD
    exact W.vret hx hb hr (fun t9 ht hW => ⟨⟨(), rfl, trivial, by rw [ht]; exact hP, hD⟩, hS.F ht⟩) hS.2.2 d_Model_input_152
  · replace hm := if_f c_1 hm
    refine lv_aload_n hx hb d_Model_input_112 rfl (lv_at hl 0 rfl) ?_
    refine lv_bipush (v := 9) hx hb d_Model_input_113 (by decide) ?_
    refine lv_aload_n hx hb d_Model_input_115 rfl (lv_at hl 0 rfl) ?_
    refine va_get (D := (dC, dI)) (ci := 12) (v := .ref ((v 77))) (C := R_Model) (T := F_Model) (N := 127) hx hb htt iw_Model hown hK hP 0 yo_12 rfl 77 (Nat.le_of_ble_eq_true rfl) (htt _ lk_Model_267) (fun _ h9 => h9) yg_77 d_Model_input_116 ?_
    refine lv_iload_n hx hb d_Model_input_119 rfl (lv_at hl 1 rfl) ?_
    obtain ⟨h_8, hm⟩ := ck_some hm
    refine va_iald hx hb hK hP 50 0 ya_77 rfl h_8 d_Model_input_120 ?_
    obtain ⟨i_10, j_11, a_12, b_13, r_14, h_9, hm⟩ := om_some hm
    have hFc := x_free hD hS hA
    refine va_callv (va_runV (As := [.int 9, .int (a 77 v1.toNatClampNeg)]) (rest := []) ⟨hx, hb, hml, hown, hts⟩ (x_Model_fail l dC dI cI cJ cB adK adV adA h v H.size n h_9) (cwV 2 hts (tw_GV tw_cons cw_Model_fail lk_Model_437 in_Model_fail sel_Model_fail ini_Model) rfl rfl rfl ⟨rfl, hd_Model_fail⟩ ⟨Nat.le_of_ble_eq_true rfl, Nat.le_of_ble_eq_true rfl⟩) (ypV hK hP hD hS hE hFc yo_12 rfl) rfl rfl hl.1 rfl (lv_room (Nat.le_of_ble_eq_true rfl)) d_Model_input_121 ⟨Nat.le_of_ble_eq_true rfl, Nat.le_of_ble_eq_true rfl⟩) hS (fun q _ h => hFc q h) hFc (fun u9 t9 H locs ht hvm e9 hB hz1 hk1 hS => ?_)
    obtain ⟨hP, hD⟩ := y_aft hB ht hFc
    clear hFc hk1 hz1 hvm hB ht
    obtain ⟨e1i, e1j, e1a, e1b, e3⟩ := re4m hm
    obtain ⟨hP, hD⟩ := y_eq e1i e1j e1a e1b hP hD
    exact W.vret hx hb hr (fun t9 ht hW => ⟨⟨(), rfl, trivial, by rw [ht]; exact hP, hD⟩, hS.F ht⟩) hS.2.2 d_Model_input_124
def m_Model_input_b66 (n : Nat) : Nat → (Nat → Int32) → (Nat → Int64) → (Nat → Nat → Int32) → (Nat → Nat → Int64) → Int32 → Int32 → Int32 → Int32 → Int32 → Option ((Nat → Int32) × (Nat → Int64) × (Nat → Nat → Int32) × (Nat → Nat → Int64) × Int32)
  | 0, _, _, _, _, _, _, _, _, _ => none
  | f + 1, i, j, a, b, v1, v3, v4, v5, v6 => ck v3 300 (if ((a 88 v3.toNatClampNeg)) ≤ v6 then m_Model_input_b107 n i j a b v1 v3 v4 v5 else if v4 = ((0 : Int32)) then ck (((5 * v3) + v6)) 1500 (ob0 (m_Model_sameWord n i j a b (a 89 ((5 * v3) + v6).toNatClampNeg) v5) (fun r_6 => ob1 (v6 + 1 : Int32) (fun x_7 => m_Model_input_b66 n f i j a b v1 v3 r_6 v5 x_7))) else m_Model_input_b107 n i j a b v1 v3 v4 v5)
set_option maxHeartbeats 4000000 in
set_option maxRecDepth 100000 in
theorem lb_Model_input_66 (l : Launch) (dC : Nat → ClassId) (dI : Nat → Nat → Nat) (cI cJ cB : ClassId) (adK adV adA : Nat → Nat) (h : Nat) (v : Nat → Nat) (n : Nat) {p : Program} {e : Env} {s : State} {m : MethodId} {args : Array Value} {below : List Frame} {meth : Method} {c : Code} {A : Nat → Prop} (hx : p.tables.exec = Jvm.exec) (hb : c.code = b_Model_input) (hml : c.maxLocals = 7) (hown : s.vm.findClass R_Model = some m.cls) (hts : ∀ w ∈ w_Model_input, w.before args s = true) (hK : va_K (dC, dI) classes [(cI, .int), (cJ, .long), (cB, .byte)] s) (hE : tw_E adK adV adA A s s.heap) (hA : ∀ q : Nat, s.heap.size ≤ q → A q) (hr : meth.sig.returnType = none) (hlocks : meth.locks = false) {i2 : Nat → Int32} {j2 : Nat → Int64} {a2 : Nat → Nat → Int32} {b2 : Nat → Nat → Int64} {r2 : Int32} : ∀ (f : Nat) (i : Nat → Int32) (j : Nat → Int64) (a : Nat → Nat → Int32) (b : Nat → Nat → Int64) (v1 : Int32) (v3 : Int32) (v4 : Int32) (v5 : Int32) (v6 : Int32), m_Model_input_b66 n f i j a b v1 v3 v4 v5 v6 = some (i2, j2, a2, b2, r2) → ∀ (H : Heap) (locs : List Loc) (ls : Array Slot), va_P (dC, dI) classes (MW cI cJ cB h v i j a b) H → va_D A (MW cI cJ cB h v i j a b) → va_S A s.heap H locs → lv_has ls 7 [(0, .ref h), (1, .int v1), (3, .int v3), (4, .int v4), (5, .int v5), (6, .int v6)] → W p l e ({ frames := 2, cells := 0, slots := 0, locals := 47 } : Room) s m args below meth c H locs 0 0 (MQ below (va_Qv xV (yB dC dI cI cJ cB h v i2 j2 a2 b2 A) A) args s 0 0 A) (F0 m 66 ls []) := by
  have htt : ∀ w ∈ tw_T, w.before _ s = true := fun w h => hts w (List.mem_cons_of_mem _ h)
  intro f
  induction f with
  | zero =>
    intro i j a b v1 v3 v4 v5 v6 hm
    rw [m_Model_input_b66] at hm
    cases hm
  | succ f ih =>
    intro i j a b v1 v3 v4 v5 v6 hm H locs ls hP hD hS hl
    rw [m_Model_input_b66] at hm
    refine lv_iload hx hb d_Model_input_66 (lv_at hl 5 rfl) ?_
    refine lv_aload_n hx hb d_Model_input_68 rfl (lv_at hl 0 rfl) ?_
    refine va_get (D := (dC, dI)) (ci := 12) (v := .ref ((v 88))) (C := R_Model) (T := F_Model) (N := 127) hx hb htt iw_Model hown hK hP 0 yo_12 rfl 88 (Nat.le_of_ble_eq_true rfl) (htt _ lk_Model_288) (fun _ h9 => h9) yg_88 d_Model_input_69 ?_
    refine lv_iload_n hx hb d_Model_input_72 rfl (lv_at hl 2 rfl) ?_
    obtain ⟨h_1, hm⟩ := ck_some hm
    refine va_iald hx hb hK hP 57 0 ya_88 rfl h_1 d_Model_input_73 ?_
    refine lv_icmp_ge (tgt := 107) hx hb d_Model_input_74 (by decide) (fun c_2 => ?_) (fun c_2 => ?_)
    · replace hm := if_t c_2 hm
      exact lb_Model_input_107 l dC dI cI cJ cB adK adV adA h v n hx hb hml hown hts hK hE hA hr hlocks _ _ _ _ _ _ _ _ hm _ _ _ hP hD hS (lv_sub hl [0, 1, 2, 3, 4] rfl)
    · replace hm := if_f c_2 hm
      refine lv_iload hx hb d_Model_input_77 (lv_at hl 3 rfl) ?_
      refine lv_if_ne (tgt := 107) hx hb d_Model_input_79 (by decide) (fun c_3 => ?_) (fun c_3 => ?_)
      · replace hm := if_f c_3 hm
        exact lb_Model_input_107 l dC dI cI cJ cB adK adV adA h v n hx hb hml hown hts hK hE hA hr hlocks _ _ _ _ _ _ _ _ hm _ _ _ hP hD hS (lv_sub hl [0, 1, 2, 3, 4] rfl)
      · replace hm := if_t c_3 hm
        refine lv_aload_n hx hb d_Model_input_82 rfl (lv_at hl 0 rfl) ?_
        refine lv_aload_n hx hb d_Model_input_83 rfl (lv_at hl 0 rfl) ?_
        refine va_get (D := (dC, dI)) (ci := 12) (v := .ref ((v 89))) (C := R_Model) (T := F_Model) (N := 127) hx hb htt iw_Model hown hK hP 0 yo_12 rfl 89 (Nat.le_of_ble_eq_true rfl) (htt _ lk_Model_291) (fun _ h9 => h9) yg_89 d_Model_input_84 ?_
        refine lv_iconst (v := 5) hx hb d_Model_input_87 (by decide) ?_
        refine lv_iload_n hx hb d_Model_input_88 rfl (lv_at hl 2 rfl) ?_
        refine lv_imul hx hb d_Model_input_89 ?_
        refine lv_iload hx hb d_Model_input_90 (lv_at hl 5 rfl) ?_
        refine lv_iadd hx hb d_Model_input_92 ?_
        obtain ⟨h_4, hm⟩ := ck_some hm
        refine va_iald hx hb hK hP 58 0 ya_89 rfl h_4 d_Model_input_93 ?_
        refine lv_iload hx hb d_Model_input_94 (lv_at hl 4 rfl) ?_
        obtain ⟨r_6, h_5, hm⟩ := ob0_some hm
        have hFc := x_free0 hS hA
        refine va_calli (va_runV (As := [.int (a 89 ((5 * v3) + v6).toNatClampNeg), .int v5]) (rest := []) ⟨hx, hb, hml, hown, hts⟩ (x_Model_sameWord l dC dI cI cJ cB adK adV adA h v H.size n h_5) (cwV 2 hts (tw_GV tw_cons cw_Model_sameWord lk_Model_91 in_Model_sameWord sel_Model_sameWord ini_Model) rfl rfl rfl ⟨rfl, hd_Model_sameWord⟩ ⟨Nat.le_of_ble_eq_true rfl, Nat.le_of_ble_eq_true rfl⟩) (ypVr hK hP hS hE hFc yo_12 rfl) rfl rfl hl.1 rfl (lv_room (Nat.le_of_ble_eq_true rfl)) d_Model_input_96 ⟨Nat.le_of_ble_eq_true rfl, Nat.le_of_ble_eq_true rfl⟩) hS (fun q _ h => hFc q h) hFc (fun r9 u9 t9 H locs ht hvm e9 hB hz1 hk1 hS => ?_)
        have e9 : r_6 = r9 := e9
        subst e9
        replace hP := x_keep hP hk1
        clear hFc hk1 hz1 hvm hB ht
        refine lv_istore (lv' := [(4, .int r_6), (0, .ref h), (1, .int v1), (3, .int v3), (5, .int v5), (6, .int v6)]) hx hb d_Model_input_99 hl (by decide) rfl (fun ls hl => ?_)
        obtain ⟨x_7, ex_7⟩ : ∃ y9 : Int32, y9 = v6 + 1 := ⟨_, rfl⟩
        replace hm := ob1_at ex_7 hm
        refine lv_iinc (v := x_7) (lv' := [(6, .int x_7), (4, .int r_6), (0, .ref h), (1, .int v1), (3, .int v3), (5, .int v5)]) hx hb d_Model_input_101 hl (k := 5) rfl (by rw [ex_7]; rfl) (by decide) rfl (fun ls hl => ?_)
        refine lv_goto (tgt := 66) hx hb d_Model_input_104 (by decide) ?_
        exact ih _ _ _ _ _ _ _ _ _ hm _ _ _ hP hD hS (lv_sub hl [2, 3, 4, 1, 5, 0] rfl)
def m_Model_input_b61 (n : Nat) (i : Nat → Int32) (j : Nat → Int64) (a : Nat → Nat → Int32) (b : Nat → Nat → Int64) (v1 : Int32) (v3 : Int32) (v4 : Int32) (s0 : Int32) : Option ((Nat → Int32) × (Nat → Int64) × (Nat → Nat → Int32) × (Nat → Nat → Int64) × Int32) := m_Model_input_b66 n n i j a b v1 v3 v4 s0 (0 : Int32)
set_option maxHeartbeats 4000000 in
set_option maxRecDepth 100000 in
theorem lb_Model_input_61 (l : Launch) (dC : Nat → ClassId) (dI : Nat → Nat → Nat) (cI cJ cB : ClassId) (adK adV adA : Nat → Nat) (h : Nat) (v : Nat → Nat) (n : Nat) {p : Program} {e : Env} {s : State} {m : MethodId} {args : Array Value} {below : List Frame} {meth : Method} {c : Code} {A : Nat → Prop} (hx : p.tables.exec = Jvm.exec) (hb : c.code = b_Model_input) (hml : c.maxLocals = 7) (hown : s.vm.findClass R_Model = some m.cls) (hts : ∀ w ∈ w_Model_input, w.before args s = true) (hK : va_K (dC, dI) classes [(cI, .int), (cJ, .long), (cB, .byte)] s) (hE : tw_E adK adV adA A s s.heap) (hA : ∀ q : Nat, s.heap.size ≤ q → A q) (hr : meth.sig.returnType = none) (hlocks : meth.locks = false) {i2 : Nat → Int32} {j2 : Nat → Int64} {a2 : Nat → Nat → Int32} {b2 : Nat → Nat → Int64} {r2 : Int32} (i : Nat → Int32) (j : Nat → Int64) (a : Nat → Nat → Int32) (b : Nat → Nat → Int64) (v1 : Int32) (v3 : Int32) (v4 : Int32) (s0 : Int32) (hm : m_Model_input_b61 n i j a b v1 v3 v4 s0 = some (i2, j2, a2, b2, r2)) : ∀ (H : Heap) (locs : List Loc) (ls : Array Slot), va_P (dC, dI) classes (MW cI cJ cB h v i j a b) H → va_D A (MW cI cJ cB h v i j a b) → va_S A s.heap H locs → lv_has ls 7 [(0, .ref h), (1, .int v1), (3, .int v3), (4, .int v4)] → W p l e ({ frames := 2, cells := 0, slots := 0, locals := 47 } : Room) s m args below meth c H locs 0 0 (MQ below (va_Qv xV (yB dC dI cI cJ cB h v i2 j2 a2 b2 A) A) args s 0 0 A) (F0 m 61 ls [.int s0]) := by
  have htt : ∀ w ∈ tw_T, w.before _ s = true := fun w h => hts w (List.mem_cons_of_mem _ h)
  intro H locs ls hP hD hS hl
  rw [m_Model_input_b61] at hm
  refine lv_istore (lv' := [(5, .int s0), (0, .ref h), (1, .int v1), (3, .int v3), (4, .int v4)]) hx hb d_Model_input_61 hl (by decide) rfl (fun ls hl => ?_)
  refine lv_iconst (v := 0) hx hb d_Model_input_63 (by decide) ?_
  refine lv_istore (lv' := [(6, .int 0), (5, .int s0), (0, .ref h), (1, .int v1), (3, .int v3), (4, .int v4)]) hx hb d_Model_input_64 hl (by decide) rfl (fun ls hl => ?_)
  exact lb_Model_input_66 l dC dI cI cJ cB adK adV adA h v n hx hb hml hown hts hK hE hA hr hlocks n _ _ _ _ _ _ _ _ _ hm _ _ _ hP hD hS (lv_sub hl [2, 3, 4, 5, 1, 0] rfl)
def m_Model_input_b30 (n : Nat) (i : Nat → Int32) (j : Nat → Int64) (a : Nat → Nat → Int32) (b : Nat → Nat → Int64) (v1 : Int32) (v2 : Int32) (v3 : Int32) (s0 : Int32) : Option ((Nat → Int32) × (Nat → Int64) × (Nat → Nat → Int32) × (Nat → Nat → Int64) × Int32) := if s0 = ((0 : Int32)) then ck v2 120000 (ck v2 120000 (om (m_Model_newWord n i j a b ((a 3 v2.toNatClampNeg) + 1) ((a 4 v2.toNatClampNeg) - 1)) (fun i_5 j_6 a_7 b_8 r_9 => m_Model_input_b61 n i_5 j_6 a_7 b_8 v1 v3 s0 r_9))) else m_Model_input_b61 n i j a b v1 v3 s0 (0 : Int32)
set_option maxHeartbeats 4000000 in
set_option maxRecDepth 100000 in
theorem lb_Model_input_30 (l : Launch) (dC : Nat → ClassId) (dI : Nat → Nat → Nat) (cI cJ cB : ClassId) (adK adV adA : Nat → Nat) (h : Nat) (v : Nat → Nat) (n : Nat) {p : Program} {e : Env} {s : State} {m : MethodId} {args : Array Value} {below : List Frame} {meth : Method} {c : Code} {A : Nat → Prop} (hx : p.tables.exec = Jvm.exec) (hb : c.code = b_Model_input) (hml : c.maxLocals = 7) (hown : s.vm.findClass R_Model = some m.cls) (hts : ∀ w ∈ w_Model_input, w.before args s = true) (hK : va_K (dC, dI) classes [(cI, .int), (cJ, .long), (cB, .byte)] s) (hE : tw_E adK adV adA A s s.heap) (hA : ∀ q : Nat, s.heap.size ≤ q → A q) (hr : meth.sig.returnType = none) (hlocks : meth.locks = false) {i2 : Nat → Int32} {j2 : Nat → Int64} {a2 : Nat → Nat → Int32} {b2 : Nat → Nat → Int64} {r2 : Int32} (i : Nat → Int32) (j : Nat → Int64) (a : Nat → Nat → Int32) (b : Nat → Nat → Int64) (v1 : Int32) (v2 : Int32) (v3 : Int32) (s0 : Int32) (hm : m_Model_input_b30 n i j a b v1 v2 v3 s0 = some (i2, j2, a2, b2, r2)) : ∀ (H : Heap) (locs : List Loc) (ls : Array Slot), va_P (dC, dI) classes (MW cI cJ cB h v i j a b) H → va_D A (MW cI cJ cB h v i j a b) → va_S A s.heap H locs → lv_has ls 7 [(0, .ref h), (1, .int v1), (2, .int v2), (3, .int v3)] → W p l e ({ frames := 2, cells := 0, slots := 0, locals := 47 } : Room) s m args below meth c H locs 0 0 (MQ below (va_Qv xV (yB dC dI cI cJ cB h v i2 j2 a2 b2 A) A) args s 0 0 A) (F0 m 30 ls [.int s0]) := by
  have htt : ∀ w ∈ tw_T, w.before _ s = true := fun w h => hts w (List.mem_cons_of_mem _ h)
  intro H locs ls hP hD hS hl
  rw [m_Model_input_b30] at hm
  refine lv_istore (lv' := [(4, .int s0), (0, .ref h), (1, .int v1), (2, .int v2), (3, .int v3)]) hx hb d_Model_input_30 hl (by decide) rfl (fun ls hl => ?_)
  refine lv_iload hx hb d_Model_input_32 (lv_at hl 0 rfl) ?_
  refine lv_if_eq (tgt := 41) hx hb d_Model_input_34 (by decide) (fun c_1 => ?_) (fun c_1 => ?_)
  · replace hm := if_t c_1 hm
    refine lv_aload_n hx hb d_Model_input_41 rfl (lv_at hl 1 rfl) ?_
    refine lv_aload_n hx hb d_Model_input_42 rfl (lv_at hl 1 rfl) ?_
    refine va_get (D := (dC, dI)) (ci := 12) (v := .ref ((v 3))) (C := R_Model) (T := F_Model) (N := 127) hx hb htt iw_Model hown hK hP 0 yo_12 rfl 3 (Nat.le_of_ble_eq_true rfl) (htt _ lk_Model_15) (fun _ h9 => h9) yg_3 d_Model_input_43 ?_
    refine lv_iload_n hx hb d_Model_input_46 rfl (lv_at hl 3 rfl) ?_
    obtain ⟨h_2, hm⟩ := ck_some hm
    refine va_iald hx hb hK hP 3 0 ya_3 rfl h_2 d_Model_input_47 ?_
    refine lv_iconst (v := 1) hx hb d_Model_input_48 (by decide) ?_
    refine lv_iadd hx hb d_Model_input_49 ?_
    refine lv_aload_n hx hb d_Model_input_50 rfl (lv_at hl 1 rfl) ?_
    refine va_get (D := (dC, dI)) (ci := 12) (v := .ref ((v 4))) (C := R_Model) (T := F_Model) (N := 127) hx hb htt iw_Model hown hK hP 0 yo_12 rfl 4 (Nat.le_of_ble_eq_true rfl) (htt _ lk_Model_22) (fun _ h9 => h9) yg_4 d_Model_input_51 ?_
    refine lv_iload_n hx hb d_Model_input_54 rfl (lv_at hl 3 rfl) ?_
    obtain ⟨h_3, hm⟩ := ck_some hm
    refine va_iald hx hb hK hP 4 0 ya_4 rfl h_3 d_Model_input_55 ?_
    refine lv_iconst (v := 1) hx hb d_Model_input_56 (by decide) ?_
    refine lv_isub hx hb d_Model_input_57 ?_
    obtain ⟨i_5, j_6, a_7, b_8, r_9, h_4, hm⟩ := om_some hm
    have hFc := x_free hD hS hA
    refine va_calli (va_runV (As := [.int ((a 3 v2.toNatClampNeg) + 1), .int ((a 4 v2.toNatClampNeg) - 1)]) (rest := []) ⟨hx, hb, hml, hown, hts⟩ (x_Model_newWord l dC dI cI cJ cB adK adV adA h v H.size n h_4) (cwV 2 hts (tw_GV tw_cons cw_Model_newWord lk_Model_454 in_Model_newWord sel_Model_newWord ini_Model) rfl rfl rfl ⟨rfl, hd_Model_newWord⟩ ⟨Nat.le_of_ble_eq_true rfl, Nat.le_of_ble_eq_true rfl⟩) (ypV hK hP hD hS hE hFc yo_12 rfl) rfl rfl hl.1 rfl (lv_room (Nat.le_of_ble_eq_true rfl)) d_Model_input_58 ⟨Nat.le_of_ble_eq_true rfl, Nat.le_of_ble_eq_true rfl⟩) hS (fun q _ h => hFc q h) hFc (fun r9 u9 t9 H locs ht hvm e9 hB hz1 hk1 hS => ?_)
    have e9 : r_9 = r9 := e9
    subst e9
    obtain ⟨hP, hD⟩ := y_aft hB ht hFc
    clear hFc hk1 hz1 hvm hB ht
    exact lb_Model_input_61 l dC dI cI cJ cB adK adV adA h v n hx hb hml hown hts hK hE hA hr hlocks _ _ _ _ _ _ _ _ hm _ _ _ hP hD hS (lv_sub hl [1, 2, 4, 0] rfl)
  · replace hm := if_f c_1 hm
    refine lv_iconst (v := 0) hx hb d_Model_input_37 (by decide) ?_
    refine lv_goto (tgt := 61) hx hb d_Model_input_38 (by decide) ?_
    exact lb_Model_input_61 l dC dI cI cJ cB adK adV adA h v n hx hb hml hown hts hK hE hA hr hlocks _ _ _ _ _ _ _ _ hm _ _ _ hP hD hS (lv_sub hl [1, 2, 4, 0] rfl)
def m_Model_input_b25 (n : Nat) (i : Nat → Int32) (j : Nat → Int64) (a : Nat → Nat → Int32) (b : Nat → Nat → Int64) (v1 : Int32) (v2 : Int32) (v3 : Int32) : Option ((Nat → Int32) × (Nat → Int64) × (Nat → Nat → Int32) × (Nat → Nat → Int64) × Int32) := m_Model_input_b30 n i j a b v1 v2 v3 (1 : Int32)
set_option maxHeartbeats 4000000 in
set_option maxRecDepth 100000 in
theorem lb_Model_input_25 (l : Launch) (dC : Nat → ClassId) (dI : Nat → Nat → Nat) (cI cJ cB : ClassId) (adK adV adA : Nat → Nat) (h : Nat) (v : Nat → Nat) (n : Nat) {p : Program} {e : Env} {s : State} {m : MethodId} {args : Array Value} {below : List Frame} {meth : Method} {c : Code} {A : Nat → Prop} (hx : p.tables.exec = Jvm.exec) (hb : c.code = b_Model_input) (hml : c.maxLocals = 7) (hown : s.vm.findClass R_Model = some m.cls) (hts : ∀ w ∈ w_Model_input, w.before args s = true) (hK : va_K (dC, dI) classes [(cI, .int), (cJ, .long), (cB, .byte)] s) (hE : tw_E adK adV adA A s s.heap) (hA : ∀ q : Nat, s.heap.size ≤ q → A q) (hr : meth.sig.returnType = none) (hlocks : meth.locks = false) {i2 : Nat → Int32} {j2 : Nat → Int64} {a2 : Nat → Nat → Int32} {b2 : Nat → Nat → Int64} {r2 : Int32} (i : Nat → Int32) (j : Nat → Int64) (a : Nat → Nat → Int32) (b : Nat → Nat → Int64) (v1 : Int32) (v2 : Int32) (v3 : Int32) (hm : m_Model_input_b25 n i j a b v1 v2 v3 = some (i2, j2, a2, b2, r2)) : ∀ (H : Heap) (locs : List Loc) (ls : Array Slot), va_P (dC, dI) classes (MW cI cJ cB h v i j a b) H → va_D A (MW cI cJ cB h v i j a b) → va_S A s.heap H locs → lv_has ls 7 [(0, .ref h), (1, .int v1), (2, .int v2), (3, .int v3)] → W p l e ({ frames := 2, cells := 0, slots := 0, locals := 47 } : Room) s m args below meth c H locs 0 0 (MQ below (va_Qv xV (yB dC dI cI cJ cB h v i2 j2 a2 b2 A) A) args s 0 0 A) (F0 m 25 ls []) := by
  have htt : ∀ w ∈ tw_T, w.before _ s = true := fun w h => hts w (List.mem_cons_of_mem _ h)
  intro H locs ls hP hD hS hl
  rw [m_Model_input_b25] at hm
  refine lv_iconst (v := 1) hx hb d_Model_input_25 (by decide) ?_
  refine lv_goto (tgt := 30) hx hb d_Model_input_26 (by decide) ?_
  exact lb_Model_input_30 l dC dI cI cJ cB adK adV adA h v n hx hb hml hown hts hK hE hA hr hlocks _ _ _ _ _ _ _ _ hm _ _ _ hP hD hS (lv_sub hl [0, 1, 2, 3] rfl)
def m_Model_input (n : Nat) (i : Nat → Int32) (j : Nat → Int64) (a : Nat → Nat → Int32) (b : Nat → Nat → Int64) (v1 : Int32) (v2 : Int32) : Option ((Nat → Int32) × (Nat → Int64) × (Nat → Nat → Int32) × (Nat → Nat → Int64) × Int32) := ob1 (i 86 : Int32) (fun x_1 => ck v2 120000 (if ((a 4 v2.toNatClampNeg)) = ((1 : Int32)) then m_Model_input_b25 n i j a b v1 v2 x_1 else ck x_1 300 (if ((a 88 x_1.toNatClampNeg)) = ((5 : Int32)) then m_Model_input_b25 n i j a b v1 v2 x_1 else m_Model_input_b30 n i j a b v1 v2 x_1 (0 : Int32))))
set_option maxHeartbeats 4000000 in
set_option maxRecDepth 100000 in
theorem x_Model_input (l : Launch) (dC : Nat → ClassId) (dI : Nat → Nat → Nat) (cI cJ cB : ClassId) (adK adV adA : Nat → Nat) (h : Nat) (v : Nat → Nat) (sz : Nat) (n : Nat) {i : Nat → Int32} {j : Nat → Int64} {a : Nat → Nat → Int32} {b : Nat → Nat → Int64} {v1 : Int32} {v2 : Int32} {i2 : Nat → Int32} {j2 : Nat → Int64} {a2 : Nat → Nat → Int32} {b2 : Nat → Nat → Int64} {r2 : Int32} (hm : m_Model_input n i j a b v1 v2 = some (i2, j2, a2, b2, r2)) : Met l y_Model_input w_Model_input ({ frames := 2, cells := 0, slots := 0, locals := 47 } : Room) (va_Pc [.ref h, .int v1, .int v2] (yE dC dI cI cJ cB adK adV adA h v i j a b sz)) (va_Qv xV (yB dC dI cI cJ cB h v i2 j2 a2 b2 (va_A (MW cI cJ cB h v i j a b) sz)) (va_A (MW cI cJ cB h v i j a b) sz)) 0 0 ((va_A (MW cI cJ cB h v i j a b) sz)) := by
  refine Met.ofW (cc := b_Model_input) (maxL := 7) (ret := none) (by decide) rfl ?_
  intro p e s m args below meth c s₁ B hml hv
  obtain ⟨rfl, hsz, hP, hK, hE, hD0⟩ := hv
  have hx := B.exec
  have hb := B.bytes
  have hr := B.returns
  have hts := atoms_spec (ws := w_Model_input) B.pre
  have htt : ∀ w ∈ tw_T, w.before _ s = true := fun w h => hts w (List.mem_cons_of_mem _ h)
  have hown : s.vm.findClass R_Model = some m.cls := findClass_of_methodNamed B.named
  have hlocks := B.notSynchronized
  subst hsz
  have hD := hD0.self (sz := s.heap.size)
  generalize hAe : (va_A (MW cI cJ cB h v i j a b) s.heap.size) = A at hD hE ⊢
  have hA : ∀ q : Nat, s.heap.size ≤ q → A q := fun q h => by rw [← hAe]; exact Or.inr h
  have hS : va_S A s.heap s.heap [] := va_S.rf
  have hl := lv_entry ([.ref h, .int v1, .int v2]) (n := 7) (Nat.le_of_ble_eq_true rfl)
  rw [lg_entry_eq]
  generalize (lg_sl ([.ref h, .int v1, .int v2]) ++ List.replicate (7 - (lg_sl ([.ref h, .int v1, .int v2])).length) Slot.unset).toArray = ls at hl ⊢
  have hl : lv_has ls 7 [(0, .ref h), (1, .int v1), (2, .int v2)] := hl
  rw [m_Model_input] at hm
  refine lv_aload_n hx hb d_Model_input_0 rfl (lv_at hl 0 rfl) ?_
  refine va_get (D := (dC, dI)) (ci := 12) (v := .int (i 86)) (C := R_Model) (T := F_Model) (N := 127) hx hb htt iw_Model hown hK hP 0 yo_12 rfl 86 (Nat.le_of_ble_eq_true rfl) (htt _ lk_Model_482) (fun _ h9 => h9) yg_86 d_Model_input_1 ?_
  refine lv_topi (fun x_1 ex_1 => ?_)
  replace hm := ob1_at ex_1 hm
  refine lv_istore_n (lv' := [(3, .int x_1), (0, .ref h), (1, .int v1), (2, .int v2)]) hx hb d_Model_input_4 rfl hl (by decide) rfl (fun ls hl => ?_)
  refine lv_aload_n hx hb d_Model_input_5 rfl (lv_at hl 1 rfl) ?_
  refine va_get (D := (dC, dI)) (ci := 12) (v := .ref ((v 4))) (C := R_Model) (T := F_Model) (N := 127) hx hb htt iw_Model hown hK hP 0 yo_12 rfl 4 (Nat.le_of_ble_eq_true rfl) (htt _ lk_Model_22) (fun _ h9 => h9) yg_4 d_Model_input_6 ?_
  refine lv_iload_n hx hb d_Model_input_9 rfl (lv_at hl 3 rfl) ?_
  obtain ⟨h_2, hm⟩ := ck_some hm
  refine va_iald hx hb hK hP 4 0 ya_4 rfl h_2 d_Model_input_10 ?_
  refine lv_iconst (v := 1) hx hb d_Model_input_11 (by decide) ?_
  refine lv_icmp_eq (tgt := 25) hx hb d_Model_input_12 (by decide) (fun c_3 => ?_) (fun c_3 => ?_)
  · replace hm := if_t c_3 hm
    exact lb_Model_input_25 l dC dI cI cJ cB adK adV adA h v n hx hb hml hown hts hK hE hA hr hlocks _ _ _ _ _ _ _ hm _ _ _ hP hD hS (lv_sub hl [1, 2, 3, 0] rfl)
  · replace hm := if_f c_3 hm
    refine lv_aload_n hx hb d_Model_input_15 rfl (lv_at hl 1 rfl) ?_
    refine va_get (D := (dC, dI)) (ci := 12) (v := .ref ((v 88))) (C := R_Model) (T := F_Model) (N := 127) hx hb htt iw_Model hown hK hP 0 yo_12 rfl 88 (Nat.le_of_ble_eq_true rfl) (htt _ lk_Model_288) (fun _ h9 => h9) yg_88 d_Model_input_16 ?_
    refine lv_iload_n hx hb d_Model_input_19 rfl (lv_at hl 0 rfl) ?_
    obtain ⟨h_4, hm⟩ := ck_some hm
    refine va_iald hx hb hK hP 57 0 ya_88 rfl h_4 d_Model_input_20 ?_
    refine lv_iconst (v := 5) hx hb d_Model_input_21 (by decide) ?_
    refine lv_icmp_ne (tgt := 29) hx hb d_Model_input_22 (by decide) (fun c_5 => ?_) (fun c_5 => ?_)
    · replace hm := if_f c_5 hm
      refine lv_iconst (v := 0) hx hb d_Model_input_29 (by decide) ?_
      exact lb_Model_input_30 l dC dI cI cJ cB adK adV adA h v n hx hb hml hown hts hK hE hA hr hlocks _ _ _ _ _ _ _ _ hm _ _ _ hP hD hS (lv_sub hl [1, 2, 3, 0] rfl)
    · replace hm := if_t c_5 hm
      exact lb_Model_input_25 l dC dI cI cJ cB adK adV adA h v n hx hb hml hown hts hK hE hA hr hlocks _ _ _ _ _ _ _ hm _ _ _ hP hD hS (lv_sub hl [1, 2, 3, 0] rfl)

def m_Model_sizeOf (n : Nat) (i : Nat → Int32) (j : Nat → Int64) (a : Nat → Nat → Int32) (b : Nat → Nat → Int64) (v1 : Int64) : Option (Int32) := ob0 (m_Model_isNumber n v1) (fun r_2 => if r_2 = ((0 : Int32)) then ob0 (m_Model_isWord n v1) (fun r_5 => if r_5 = ((0 : Int32)) then ob0 (m_Model_what n v1) (fun r_8 => ck r_8 90000 (some (a 14 r_8.toNatClampNeg))) else ob0 (m_Model_what n v1) (fun r_11 => ck r_11 120000 (some (a 4 r_11.toNatClampNeg)))) else some 1)
set_option maxHeartbeats 4000000 in
set_option maxRecDepth 100000 in
theorem x_Model_sizeOf (l : Launch) (dC : Nat → ClassId) (dI : Nat → Nat → Nat) (cI cJ cB : ClassId) (adK adV adA : Nat → Nat) (h : Nat) (v : Nat → Nat) (sz : Nat) (n : Nat) {i : Nat → Int32} {j : Nat → Int64} {a : Nat → Nat → Int32} {b : Nat → Nat → Int64} {v1 : Int64} {r2 : Int32} (hm : m_Model_sizeOf n i j a b v1 = some r2) : Met l y_Model_sizeOf w_Model_sizeOf ({ frames := 2, cells := 0, slots := 0, locals := 42 } : Room) (va_Pc [.ref h, .long v1] (yEr dC dI cI cJ cB adK adV adA h v i j a b sz)) (va_Qi (xR r2) xT (xN sz)) 0 0 (xN sz) := by
  refine Met.ofW (cc := b_Model_sizeOf) (maxL := 3) (ret := (some .int)) (by decide) rfl ?_
  intro p e s m args below meth c s₁ B hml hv
  obtain ⟨rfl, hsz, hP, hK, hE⟩ := hv
  have hx := B.exec
  have hb := B.bytes
  have hr := B.returns
  have hts := atoms_spec (ws := w_Model_sizeOf) B.pre
  have htt : ∀ w ∈ tw_T, w.before _ s = true := fun w h => hts w (List.mem_cons_of_mem _ h)
  have hown : s.vm.findClass R_Model = some m.cls := findClass_of_methodNamed B.named
  have hlocks := B.notSynchronized
  subst hsz
  generalize hAe : xN s.heap.size = A at hE ⊢
  have hA : ∀ q : Nat, s.heap.size ≤ q → A q := fun q h => by rw [← hAe]; exact Or.inr h
  have hS : va_S A s.heap s.heap [] := va_S.rf
  have hl := lv_entry ([.ref h, .long v1]) (n := 3) (Nat.le_of_ble_eq_true rfl)
  rw [lg_entry_eq]
  generalize (lg_sl ([.ref h, .long v1]) ++ List.replicate (3 - (lg_sl ([.ref h, .long v1])).length) Slot.unset).toArray = ls at hl ⊢
  have hl : lv_has ls 3 [(0, .ref h), (1, .long v1)] := hl
  rw [m_Model_sizeOf] at hm
  refine lv_lload_n hx hb d_Model_sizeOf_0 rfl (lv_at hl 1 rfl) ?_
  obtain ⟨r_2, h_1, hm⟩ := ob0_some hm
  have hFc := x_free0 hS hA
  refine va_calli (va_runS (As := [.long v1]) (rest := []) ⟨hx, hb, hml, hown, hts⟩ (x_Model_isNumber l s.heap.size n h_1) (va_cwS 1 hts (tw_GS tw_cons cw_Model_isNumber lk_Model_57 st_Model_isNumber ini_Model) rfl rfl rfl hd_Model_isNumber ⟨Nat.le_of_ble_eq_true rfl, Nat.le_of_ble_eq_true rfl⟩) xpS0 rfl rfl hl.1 rfl (lv_room (Nat.le_of_ble_eq_true rfl)) d_Model_sizeOf_1 ⟨Nat.le_of_ble_eq_true rfl, Nat.le_of_ble_eq_true rfl⟩) hS (fun q _ h => hFc q h) hFc (fun r9 u9 t9 H locs ht hvm e9 hB hz1 hk1 hS => ?_)
  have e9 : r_2 = r9 := e9
  subst e9
  replace hP := x_keep hP hk1
  clear hFc hk1 hz1 hvm hB ht
  refine lv_if_eq (tgt := 11) hx hb d_Model_sizeOf_4 (by decide) (fun c_3 => ?_) (fun c_3 => ?_)
  · replace hm := if_t c_3 hm
    refine lv_lload_n hx hb d_Model_sizeOf_11 rfl (lv_at hl 1 rfl) ?_
    obtain ⟨r_5, h_4, hm⟩ := ob0_some hm
    have hFc := x_free0 hS hA
    refine va_calli (va_runS (As := [.long v1]) (rest := []) ⟨hx, hb, hml, hown, hts⟩ (x_Model_isWord l H.size n h_4) (va_cwS 1 hts (tw_GS tw_cons cw_Model_isWord lk_Model_61 st_Model_isWord ini_Model) rfl rfl rfl hd_Model_isWord ⟨Nat.le_of_ble_eq_true rfl, Nat.le_of_ble_eq_true rfl⟩) xpS0 rfl rfl hl.1 rfl (lv_room (Nat.le_of_ble_eq_true rfl)) d_Model_sizeOf_12 ⟨Nat.le_of_ble_eq_true rfl, Nat.le_of_ble_eq_true rfl⟩) hS (fun q _ h => hFc q h) hFc (fun r9 u9 t9 H locs ht hvm e9 hB hz1 hk1 hS => ?_)
    have e9 : r_5 = r9 := e9
    subst e9
    replace hP := x_keep hP hk1
    clear hFc hk1 hz1 hvm hB ht
    refine lv_if_eq (tgt := 30) hx hb d_Model_sizeOf_15 (by decide) (fun c_6 => ?_) (fun c_6 => ?_)
    · replace hm := if_t c_6 hm
      refine lv_aload_n hx hb d_Model_sizeOf_30 rfl (lv_at hl 0 rfl) ?_
      refine va_get (D := (dC, dI)) (ci := 12) (v := .ref ((v 14))) (C := R_Model) (T := F_Model) (N := 127) hx hb htt iw_Model hown hK hP 0 yo_12 rfl 14 (Nat.le_of_ble_eq_true rfl) (htt _ lk_Model_50) (fun _ h9 => h9) yg_14 d_Model_sizeOf_31 ?_
      refine lv_lload_n hx hb d_Model_sizeOf_34 rfl (lv_at hl 1 rfl) ?_
      obtain ⟨r_8, h_7, hm⟩ := ob0_some hm
      have hFc := x_free0 hS hA
      refine va_calli (va_runS (As := [.long v1]) (rest := [.ref ((v 14))]) ⟨hx, hb, hml, hown, hts⟩ (x_Model_what l H.size n h_7) (va_cwS 1 hts (tw_GS tw_cons cw_Model_what lk_Model_64 st_Model_what ini_Model) rfl rfl rfl hd_Model_what ⟨Nat.le_of_ble_eq_true rfl, Nat.le_of_ble_eq_true rfl⟩) xpS0 rfl rfl hl.1 rfl (lv_room (Nat.le_of_ble_eq_true rfl)) d_Model_sizeOf_35 ⟨Nat.le_of_ble_eq_true rfl, Nat.le_of_ble_eq_true rfl⟩) hS (fun q _ h => hFc q h) hFc (fun r9 u9 t9 H locs ht hvm e9 hB hz1 hk1 hS => ?_)
      have e9 : r_8 = r9 := e9
      subst e9
      replace hP := x_keep hP hk1
      clear hFc hk1 hz1 hvm hB ht
      obtain ⟨h_9, hm⟩ := ck_some hm
      refine va_iald hx hb hK hP 14 0 ya_14 rfl h_9 d_Model_sizeOf_38 ?_
      have e3 := re1 hm
      exact W.iret hx hb hr (fun t9 ht hW => ⟨⟨_, (), rfl, e3.symm, trivial⟩, hS.F ht⟩) hS.2.2 d_Model_sizeOf_39
    · replace hm := if_f c_6 hm
      refine lv_aload_n hx hb d_Model_sizeOf_18 rfl (lv_at hl 0 rfl) ?_
      refine va_get (D := (dC, dI)) (ci := 12) (v := .ref ((v 4))) (C := R_Model) (T := F_Model) (N := 127) hx hb htt iw_Model hown hK hP 0 yo_12 rfl 4 (Nat.le_of_ble_eq_true rfl) (htt _ lk_Model_22) (fun _ h9 => h9) yg_4 d_Model_sizeOf_19 ?_
      refine lv_lload_n hx hb d_Model_sizeOf_22 rfl (lv_at hl 1 rfl) ?_
      obtain ⟨r_11, h_10, hm⟩ := ob0_some hm
      have hFc := x_free0 hS hA
      refine va_calli (va_runS (As := [.long v1]) (rest := [.ref ((v 4))]) ⟨hx, hb, hml, hown, hts⟩ (x_Model_what l H.size n h_10) (va_cwS 1 hts (tw_GS tw_cons cw_Model_what lk_Model_64 st_Model_what ini_Model) rfl rfl rfl hd_Model_what ⟨Nat.le_of_ble_eq_true rfl, Nat.le_of_ble_eq_true rfl⟩) xpS0 rfl rfl hl.1 rfl (lv_room (Nat.le_of_ble_eq_true rfl)) d_Model_sizeOf_23 ⟨Nat.le_of_ble_eq_true rfl, Nat.le_of_ble_eq_true rfl⟩) hS (fun q _ h => hFc q h) hFc (fun r9 u9 t9 H locs ht hvm e9 hB hz1 hk1 hS => ?_)
      have e9 : r_11 = r9 := e9
      subst e9
      replace hP := x_keep hP hk1
      clear hFc hk1 hz1 hvm hB ht
      obtain ⟨h_12, hm⟩ := ck_some hm
      refine va_iald hx hb hK hP 4 0 ya_4 rfl h_12 d_Model_sizeOf_26 ?_
      refine lv_goto (tgt := 39) hx hb d_Model_sizeOf_27 (by decide) ?_
      have e3 := re1 hm
      exact W.iret hx hb hr (fun t9 ht hW => ⟨⟨_, (), rfl, e3.symm, trivial⟩, hS.F ht⟩) hS.2.2 d_Model_sizeOf_39
  · replace hm := if_f c_3 hm
    refine lv_iconst (v := 1) hx hb d_Model_sizeOf_7 (by decide) ?_
    refine lv_goto (tgt := 39) hx hb d_Model_sizeOf_8 (by decide) ?_
    have e3 := re1 hm
    exact W.iret hx hb hr (fun t9 ht hW => ⟨⟨_, (), rfl, e3.symm, trivial⟩, hS.F ht⟩) hS.2.2 d_Model_sizeOf_39

def m_Model_move_b73 (n : Nat) (i : Nat → Int32) (j : Nat → Int64) (a : Nat → Nat → Int32) (b : Nat → Nat → Int64) (v3 : Int32) : Option ((Nat → Int32) × (Nat → Int64) × (Nat → Nat → Int32) × (Nat → Nat → Int64) × Int64) := ck v3 90000 (ob0 (m_Model_listValue n (a 17 v3.toNatClampNeg)) (fun r_3 => some (i, j, a, b, r_3)))
set_option maxHeartbeats 4000000 in
set_option maxRecDepth 100000 in
theorem lb_Model_move_73 (l : Launch) (dC : Nat → ClassId) (dI : Nat → Nat → Nat) (cI cJ cB : ClassId) (adK adV adA : Nat → Nat) (h : Nat) (v : Nat → Nat) (n : Nat) {p : Program} {e : Env} {s : State} {m : MethodId} {args : Array Value} {below : List Frame} {meth : Method} {c : Code} {A : Nat → Prop} (hx : p.tables.exec = Jvm.exec) (hb : c.code = b_Model_move) (hml : c.maxLocals = 4) (hown : s.vm.findClass R_Model = some m.cls) (hts : ∀ w ∈ w_Model_move, w.before args s = true) (hK : va_K (dC, dI) classes [(cI, .int), (cJ, .long), (cB, .byte)] s) (hE : tw_E adK adV adA A s s.heap) (hA : ∀ q : Nat, s.heap.size ≤ q → A q) (hr : meth.sig.returnType = (some .long)) (hlocks : meth.locks = false) {i2 : Nat → Int32} {j2 : Nat → Int64} {a2 : Nat → Nat → Int32} {b2 : Nat → Nat → Int64} {r2 : Int64} (i : Nat → Int32) (j : Nat → Int64) (a : Nat → Nat → Int32) (b : Nat → Nat → Int64) (v3 : Int32) (hm : m_Model_move_b73 n i j a b v3 = some (i2, j2, a2, b2, r2)) : ∀ (H : Heap) (locs : List Loc) (ls : Array Slot), va_P (dC, dI) classes (MW cI cJ cB h v i j a b) H → va_D A (MW cI cJ cB h v i j a b) → va_S A s.heap H locs → lv_has ls 4 [(0, .ref h), (3, .int v3)] → W p l e ({ frames := 2, cells := 0, slots := 0, locals := 61 } : Room) s m args below meth c H locs 0 0 (MQ below (va_Ql (xR r2) (yB dC dI cI cJ cB h v i2 j2 a2 b2 A) A) args s 0 0 A) (F0 m 73 ls []) := by
  have htt : ∀ w ∈ tw_T, w.before _ s = true := fun w h => hts w (List.mem_cons_of_mem _ h)
  intro H locs ls hP hD hS hl
  rw [m_Model_move_b73] at hm
  refine lv_aload_n hx hb d_Model_move_73 rfl (lv_at hl 0 rfl) ?_
  refine va_get (D := (dC, dI)) (ci := 12) (v := .ref ((v 17))) (C := R_Model) (T := F_Model) (N := 127) hx hb htt iw_Model hown hK hP 0 yo_12 rfl 17 (Nat.le_of_ble_eq_true rfl) (htt _ lk_Model_179) (fun _ h9 => h9) yg_17 d_Model_move_74 ?_
  refine lv_iload_n hx hb d_Model_move_77 rfl (lv_at hl 1 rfl) ?_
  obtain ⟨h_1, hm⟩ := ck_some hm
  refine va_iald hx hb hK hP 17 0 ya_17 rfl h_1 d_Model_move_78 ?_
  obtain ⟨r_3, h_2, hm⟩ := ob0_some hm
  have hFc := x_free0 hS hA
  refine va_calll (va_runS (As := [.int (a 17 v3.toNatClampNeg)]) (rest := []) ⟨hx, hb, hml, hown, hts⟩ (x_Model_listValue l H.size n h_2) (va_cwS 1 hts (tw_GS tw_cons cw_Model_listValue lk_Model_53 st_Model_listValue ini_Model) rfl rfl rfl hd_Model_listValue ⟨Nat.le_of_ble_eq_true rfl, Nat.le_of_ble_eq_true rfl⟩) xpS0 rfl rfl hl.1 rfl (lv_room (Nat.le_of_ble_eq_true rfl)) d_Model_move_79 ⟨Nat.le_of_ble_eq_true rfl, Nat.le_of_ble_eq_true rfl⟩) hS (fun q _ h => hFc q h) hFc (fun r9 u9 t9 H locs ht hvm e9 hB hz1 hk1 hS => ?_)
  have e9 : r_3 = r9 := e9
  subst e9
  replace hP := x_keep hP hk1
  clear hFc hk1 hz1 hvm hB ht
  obtain ⟨e1i, e1j, e1a, e1b, e3⟩ := re4m hm
  obtain ⟨hP, hD⟩ := y_eq e1i e1j e1a e1b hP hD
  exact W.lret hx hb hr (fun t9 ht hW => ⟨⟨_, (), rfl, e3.symm, by rw [ht]; exact hP, hD⟩, hS.F ht⟩) hS.2.2 d_Model_move_82
def m_Model_move (n : Nat) (i : Nat → Int32) (j : Nat → Int64) (a : Nat → Nat → Int32) (b : Nat → Nat → Int64) (v1 : Int64) : Option ((Nat → Int32) × (Nat → Int64) × (Nat → Nat → Int32) × (Nat → Nat → Int64) × Int64) := ob0 (m_Model_isNumber n v1) (fun r_2 => if r_2 = ((0 : Int32)) then ob0 (m_Model_isWord n v1) (fun r_5 => if r_5 = ((0 : Int32)) then ob0 (m_Model_what n v1) (fun r_8 => ck r_8 90000 (if ((a 17 r_8.toNatClampNeg)) = ((-1 : Int32)) then ck r_8 90000 (ob1 (sv a 17 r_8.toNatClampNeg (i 70) : Nat → Nat → Int32) (fun a_12 => ck ((i 70)) 90000 (ob1 (sv a_12 71 (i 70).toNatClampNeg r_8 : Nat → Nat → Int32) (fun a_14 => ob1 ((i 70) + 1 : Int32) (fun x_15 => ob1 (upd i 70 x_15 : Nat → Int32) (fun i_16 => m_Model_move_b73 n i_16 j a_14 b r_8)))))) else m_Model_move_b73 n i j a b r_8)) else ob0 (m_Model_what n v1) (fun r_18 => om (m_Model_moveWord n i j a b r_18) (fun i_20 j_21 a_22 b_23 r_24 => ob0 (m_Model_wordValue n r_24) (fun r_26 => some (i_20, j_21, a_22, b_23, r_26))))) else some (i, j, a, b, v1))
set_option maxHeartbeats 4000000 in
set_option maxRecDepth 100000 in
theorem x_Model_move (l : Launch) (dC : Nat → ClassId) (dI : Nat → Nat → Nat) (cI cJ cB : ClassId) (adK adV adA : Nat → Nat) (h : Nat) (v : Nat → Nat) (sz : Nat) (n : Nat) {i : Nat → Int32} {j : Nat → Int64} {a : Nat → Nat → Int32} {b : Nat → Nat → Int64} {v1 : Int64} {i2 : Nat → Int32} {j2 : Nat → Int64} {a2 : Nat → Nat → Int32} {b2 : Nat → Nat → Int64} {r2 : Int64} (hm : m_Model_move n i j a b v1 = some (i2, j2, a2, b2, r2)) : Met l y_Model_move w_Model_move ({ frames := 2, cells := 0, slots := 0, locals := 61 } : Room) (va_Pc [.ref h, .long v1] (yE dC dI cI cJ cB adK adV adA h v i j a b sz)) (va_Ql (xR r2) (yB dC dI cI cJ cB h v i2 j2 a2 b2 (va_A (MW cI cJ cB h v i j a b) sz)) (va_A (MW cI cJ cB h v i j a b) sz)) 0 0 ((va_A (MW cI cJ cB h v i j a b) sz)) := by
  refine Met.ofW (cc := b_Model_move) (maxL := 4) (ret := (some .long)) (by decide) rfl ?_
  intro p e s m args below meth c s₁ B hml hv
  obtain ⟨rfl, hsz, hP, hK, hE, hD0⟩ := hv
  have hx := B.exec
  have hb := B.bytes
  have hr := B.returns
  have hts := atoms_spec (ws := w_Model_move) B.pre
  have htt : ∀ w ∈ tw_T, w.before _ s = true := fun w h => hts w (List.mem_cons_of_mem _ h)
  have hown : s.vm.findClass R_Model = some m.cls := findClass_of_methodNamed B.named
  have hlocks := B.notSynchronized
  subst hsz
  have hD := hD0.self (sz := s.heap.size)
  generalize hAe : (va_A (MW cI cJ cB h v i j a b) s.heap.size) = A at hD hE ⊢
  have hA : ∀ q : Nat, s.heap.size ≤ q → A q := fun q h => by rw [← hAe]; exact Or.inr h
  have hS : va_S A s.heap s.heap [] := va_S.rf
  have hl := lv_entry ([.ref h, .long v1]) (n := 4) (Nat.le_of_ble_eq_true rfl)
  rw [lg_entry_eq]
  generalize (lg_sl ([.ref h, .long v1]) ++ List.replicate (4 - (lg_sl ([.ref h, .long v1])).length) Slot.unset).toArray = ls at hl ⊢
  have hl : lv_has ls 4 [(0, .ref h), (1, .long v1)] := hl
  rw [m_Model_move] at hm
  refine lv_lload_n hx hb d_Model_move_0 rfl (lv_at hl 1 rfl) ?_
  obtain ⟨r_2, h_1, hm⟩ := ob0_some hm
  have hFc := x_free0 hS hA
  refine va_calli (va_runS (As := [.long v1]) (rest := []) ⟨hx, hb, hml, hown, hts⟩ (x_Model_isNumber l s.heap.size n h_1) (va_cwS 1 hts (tw_GS tw_cons cw_Model_isNumber lk_Model_57 st_Model_isNumber ini_Model) rfl rfl rfl hd_Model_isNumber ⟨Nat.le_of_ble_eq_true rfl, Nat.le_of_ble_eq_true rfl⟩) xpS0 rfl rfl hl.1 rfl (lv_room (Nat.le_of_ble_eq_true rfl)) d_Model_move_1 ⟨Nat.le_of_ble_eq_true rfl, Nat.le_of_ble_eq_true rfl⟩) hS (fun q _ h => hFc q h) hFc (fun r9 u9 t9 H locs ht hvm e9 hB hz1 hk1 hS => ?_)
  have e9 : r_2 = r9 := e9
  subst e9
  replace hP := x_keep hP hk1
  clear hFc hk1 hz1 hvm hB ht
  refine lv_if_eq (tgt := 9) hx hb d_Model_move_4 (by decide) (fun c_3 => ?_) (fun c_3 => ?_)
  · replace hm := if_t c_3 hm
    refine lv_lload_n hx hb d_Model_move_9 rfl (lv_at hl 1 rfl) ?_
    obtain ⟨r_5, h_4, hm⟩ := ob0_some hm
    have hFc := x_free0 hS hA
    refine va_calli (va_runS (As := [.long v1]) (rest := []) ⟨hx, hb, hml, hown, hts⟩ (x_Model_isWord l H.size n h_4) (va_cwS 1 hts (tw_GS tw_cons cw_Model_isWord lk_Model_61 st_Model_isWord ini_Model) rfl rfl rfl hd_Model_isWord ⟨Nat.le_of_ble_eq_true rfl, Nat.le_of_ble_eq_true rfl⟩) xpS0 rfl rfl hl.1 rfl (lv_room (Nat.le_of_ble_eq_true rfl)) d_Model_move_10 ⟨Nat.le_of_ble_eq_true rfl, Nat.le_of_ble_eq_true rfl⟩) hS (fun q _ h => hFc q h) hFc (fun r9 u9 t9 H locs ht hvm e9 hB hz1 hk1 hS => ?_)
    have e9 : r_5 = r9 := e9
    subst e9
    replace hP := x_keep hP hk1
    clear hFc hk1 hz1 hvm hB ht
    refine lv_if_eq (tgt := 28) hx hb d_Model_move_13 (by decide) (fun c_6 => ?_) (fun c_6 => ?_)
    · replace hm := if_t c_6 hm
      refine lv_lload_n hx hb d_Model_move_28 rfl (lv_at hl 1 rfl) ?_
      obtain ⟨r_8, h_7, hm⟩ := ob0_some hm
      have hFc := x_free0 hS hA
      refine va_calli (va_runS (As := [.long v1]) (rest := []) ⟨hx, hb, hml, hown, hts⟩ (x_Model_what l H.size n h_7) (va_cwS 1 hts (tw_GS tw_cons cw_Model_what lk_Model_64 st_Model_what ini_Model) rfl rfl rfl hd_Model_what ⟨Nat.le_of_ble_eq_true rfl, Nat.le_of_ble_eq_true rfl⟩) xpS0 rfl rfl hl.1 rfl (lv_room (Nat.le_of_ble_eq_true rfl)) d_Model_move_29 ⟨Nat.le_of_ble_eq_true rfl, Nat.le_of_ble_eq_true rfl⟩) hS (fun q _ h => hFc q h) hFc (fun r9 u9 t9 H locs ht hvm e9 hB hz1 hk1 hS => ?_)
      have e9 : r_8 = r9 := e9
      subst e9
      replace hP := x_keep hP hk1
      clear hFc hk1 hz1 hvm hB ht
      refine lv_istore_n (lv' := [(3, .int r_8), (0, .ref h), (1, .long v1)]) hx hb d_Model_move_32 rfl hl (by decide) rfl (fun ls hl => ?_)
      refine lv_aload_n hx hb d_Model_move_33 rfl (lv_at hl 1 rfl) ?_
      refine va_get (D := (dC, dI)) (ci := 12) (v := .ref ((v 17))) (C := R_Model) (T := F_Model) (N := 127) hx hb htt iw_Model hown hK hP 0 yo_12 rfl 17 (Nat.le_of_ble_eq_true rfl) (htt _ lk_Model_179) (fun _ h9 => h9) yg_17 d_Model_move_34 ?_
      refine lv_iload_n hx hb d_Model_move_37 rfl (lv_at hl 0 rfl) ?_
      obtain ⟨h_9, hm⟩ := ck_some hm
      refine va_iald hx hb hK hP 17 0 ya_17 rfl h_9 d_Model_move_38 ?_
      refine lv_iconst (v := -1) hx hb d_Model_move_39 (by decide) ?_
      refine lv_icmp_ne (tgt := 73) hx hb d_Model_move_40 (by decide) (fun c_10 => ?_) (fun c_10 => ?_)
      · replace hm := if_f c_10 hm
        exact lb_Model_move_73 l dC dI cI cJ cB adK adV adA h v n hx hb hml hown hts hK hE hA hr hlocks _ _ _ _ _ hm _ _ _ hP hD hS (lv_sub hl [1, 0] rfl)
      · replace hm := if_t c_10 hm
        refine lv_aload_n hx hb d_Model_move_43 rfl (lv_at hl 1 rfl) ?_
        refine va_get (D := (dC, dI)) (ci := 12) (v := .ref ((v 17))) (C := R_Model) (T := F_Model) (N := 127) hx hb htt iw_Model hown hK hP 0 yo_12 rfl 17 (Nat.le_of_ble_eq_true rfl) (htt _ lk_Model_179) (fun _ h9 => h9) yg_17 d_Model_move_44 ?_
        refine lv_iload_n hx hb d_Model_move_47 rfl (lv_at hl 0 rfl) ?_
        refine lv_aload_n hx hb d_Model_move_48 rfl (lv_at hl 1 rfl) ?_
        refine va_get (D := (dC, dI)) (ci := 12) (v := .int (i 70)) (C := R_Model) (T := F_Model) (N := 127) hx hb htt iw_Model hown hK hP 0 yo_12 rfl 70 (Nat.le_of_ble_eq_true rfl) (htt _ lk_Model_399) (fun _ h9 => h9) yg_70 d_Model_move_49 ?_
        obtain ⟨h_11, hm⟩ := ck_some hm
        refine va_iast hx hb hK hP hD hS 17 0 ya_17 rfl h_11 d_Model_move_52 (fun H locs hP hD hS => ?_)
        obtain ⟨a_12, ea_12⟩ : ∃ y9 : Nat → Nat → Int32, y9 = sv a 17 r_8.toNatClampNeg (i 70) := ⟨_, rfl⟩
        replace hm := ob1_at ea_12 hm
        obtain ⟨hP, hD⟩ := yv_17 ea_12 hP hD
        refine lv_aload_n hx hb d_Model_move_53 rfl (lv_at hl 1 rfl) ?_
        refine va_get (D := (dC, dI)) (ci := 12) (v := .ref ((v 71))) (C := R_Model) (T := F_Model) (N := 127) hx hb htt iw_Model hown hK hP 0 yo_12 rfl 71 (Nat.le_of_ble_eq_true rfl) (htt _ lk_Model_255) (fun _ h9 => h9) yg_71 d_Model_move_54 ?_
        refine lv_aload_n hx hb d_Model_move_57 rfl (lv_at hl 1 rfl) ?_
        refine va_get (D := (dC, dI)) (ci := 12) (v := .int (i 70)) (C := R_Model) (T := F_Model) (N := 127) hx hb htt iw_Model hown hK hP 0 yo_12 rfl 70 (Nat.le_of_ble_eq_true rfl) (htt _ lk_Model_399) (fun _ h9 => h9) yg_70 d_Model_move_58 ?_
        refine lv_iload_n hx hb d_Model_move_61 rfl (lv_at hl 0 rfl) ?_
        obtain ⟨h_13, hm⟩ := ck_some hm
        refine va_iast hx hb hK hP hD hS 47 0 ya_71 rfl h_13 d_Model_move_62 (fun H locs hP hD hS => ?_)
        obtain ⟨a_14, ea_14⟩ : ∃ y9 : Nat → Nat → Int32, y9 = sv a_12 71 (i 70).toNatClampNeg r_8 := ⟨_, rfl⟩
        replace hm := ob1_at ea_14 hm
        obtain ⟨hP, hD⟩ := yv_71 ea_14 hP hD
        refine lv_aload_n hx hb d_Model_move_63 rfl (lv_at hl 1 rfl) ?_
        refine lv_dup hx hb d_Model_move_64 rfl ?_
        refine va_get (D := (dC, dI)) (ci := 12) (v := .int (i 70)) (C := R_Model) (T := F_Model) (N := 127) hx hb htt iw_Model hown hK hP 0 yo_12 rfl 70 (Nat.le_of_ble_eq_true rfl) (htt _ lk_Model_399) (fun _ h9 => h9) yg_70 d_Model_move_65 ?_
        refine lv_iconst (v := 1) hx hb d_Model_move_68 (by decide) ?_
        refine lv_iadd hx hb d_Model_move_69 ?_
        refine lv_topi (fun x_15 ex_15 => ?_)
        replace hm := ob1_at ex_15 hm
        refine va_put (D := (dC, dI)) (ci := 12) (v := .int x_15) (ty := .int) (C := R_Model) (T := F_Model) (N := 127) hx hb htt iw_Model t_Model t_Model_ok n_Model hown hK hP hD hS 0 yo_12 rfl 70 (Nat.le_of_ble_eq_true rfl) (htt _ lk_Model_399) (fun _ h9 => h9) rfl (by decide +kernel) rfl rfl yl_70 d_Model_move_70 (fun H locs hP hD hS => ?_)
        obtain ⟨i_16, ei_16⟩ : ∃ y9 : Nat → Int32, y9 = upd i 70 x_15 := ⟨_, rfl⟩
        replace hm := ob1_at ei_16 hm
        obtain ⟨hP, hD⟩ := yw_70 ei_16 hP hD
        exact lb_Model_move_73 l dC dI cI cJ cB adK adV adA h v n hx hb hml hown hts hK hE hA hr hlocks _ _ _ _ _ hm _ _ _ hP hD hS (lv_sub hl [1, 0] rfl)
    · replace hm := if_f c_6 hm
      refine lv_aload_n hx hb d_Model_move_16 rfl (lv_at hl 0 rfl) ?_
      refine lv_lload_n hx hb d_Model_move_17 rfl (lv_at hl 1 rfl) ?_
      obtain ⟨r_18, h_17, hm⟩ := ob0_some hm
      have hFc := x_free0 hS hA
      refine va_calli (va_runS (As := [.long v1]) (rest := [.ref h]) ⟨hx, hb, hml, hown, hts⟩ (x_Model_what l H.size n h_17) (va_cwS 1 hts (tw_GS tw_cons cw_Model_what lk_Model_64 st_Model_what ini_Model) rfl rfl rfl hd_Model_what ⟨Nat.le_of_ble_eq_true rfl, Nat.le_of_ble_eq_true rfl⟩) xpS0 rfl rfl hl.1 rfl (lv_room (Nat.le_of_ble_eq_true rfl)) d_Model_move_18 ⟨Nat.le_of_ble_eq_true rfl, Nat.le_of_ble_eq_true rfl⟩) hS (fun q _ h => hFc q h) hFc (fun r9 u9 t9 H locs ht hvm e9 hB hz1 hk1 hS => ?_)
      have e9 : r_18 = r9 := e9
      subst e9
      replace hP := x_keep hP hk1
      clear hFc hk1 hz1 hvm hB ht
      obtain ⟨i_20, j_21, a_22, b_23, r_24, h_19, hm⟩ := om_some hm
      have hFc := x_free hD hS hA
      refine va_calli (va_runV (As := [.int r_18]) (rest := []) ⟨hx, hb, hml, hown, hts⟩ (x_Model_moveWord l dC dI cI cJ cB adK adV adA h v H.size n h_19) (cwV 1 hts (tw_GV tw_cons cw_Model_moveWord lk_Model_393 in_Model_moveWord sel_Model_moveWord ini_Model) rfl rfl rfl ⟨rfl, hd_Model_moveWord⟩ ⟨Nat.le_of_ble_eq_true rfl, Nat.le_of_ble_eq_true rfl⟩) (ypV hK hP hD hS hE hFc yo_12 rfl) rfl rfl hl.1 rfl (lv_room (Nat.le_of_ble_eq_true rfl)) d_Model_move_21 ⟨Nat.le_of_ble_eq_true rfl, Nat.le_of_ble_eq_true rfl⟩) hS (fun q _ h => hFc q h) hFc (fun r9 u9 t9 H locs ht hvm e9 hB hz1 hk1 hS => ?_)
      have e9 : r_24 = r9 := e9
      subst e9
      obtain ⟨hP, hD⟩ := y_aft hB ht hFc
      clear hFc hk1 hz1 hvm hB ht
      obtain ⟨r_26, h_25, hm⟩ := ob0_some hm
      have hFc := x_free0 hS hA
      refine va_calll (va_runS (As := [.int r_24]) (rest := []) ⟨hx, hb, hml, hown, hts⟩ (x_Model_wordValue l H.size n h_25) (va_cwS 1 hts (tw_GS tw_cons cw_Model_wordValue lk_Model_396 st_Model_wordValue ini_Model) rfl rfl rfl hd_Model_wordValue ⟨Nat.le_of_ble_eq_true rfl, Nat.le_of_ble_eq_true rfl⟩) xpS0 rfl rfl hl.1 rfl (lv_room (Nat.le_of_ble_eq_true rfl)) d_Model_move_24 ⟨Nat.le_of_ble_eq_true rfl, Nat.le_of_ble_eq_true rfl⟩) hS (fun q _ h => hFc q h) hFc (fun r9 u9 t9 H locs ht hvm e9 hB hz1 hk1 hS => ?_)
      have e9 : r_26 = r9 := e9
      subst e9
      replace hP := x_keep hP hk1
      clear hFc hk1 hz1 hvm hB ht
      obtain ⟨e1i, e1j, e1a, e1b, e3⟩ := re4m hm
      obtain ⟨hP, hD⟩ := y_eq e1i e1j e1a e1b hP hD
      exact W.lret hx hb hr (fun t9 ht hW => ⟨⟨_, (), rfl, e3.symm, by rw [ht]; exact hP, hD⟩, hS.F ht⟩) hS.2.2 d_Model_move_27
  · replace hm := if_f c_3 hm
    refine lv_lload_n hx hb d_Model_move_7 rfl (lv_at hl 1 rfl) ?_
    obtain ⟨e1i, e1j, e1a, e1b, e3⟩ := re4m hm
    obtain ⟨hP, hD⟩ := y_eq e1i e1j e1a e1b hP hD
    exact W.lret hx hb hr (fun t9 ht hW => ⟨⟨_, (), rfl, e3.symm, by rw [ht]; exact hP, hD⟩, hS.F ht⟩) hS.2.2 d_Model_move_8

def m_Model_valueOf_b44 (n : Nat) (i : Nat → Int32) (j : Nat → Int64) (a : Nat → Nat → Int32) (b : Nat → Nat → Int64) (s0 : Int64) : Option ((Nat → Int32) × (Nat → Int64) × (Nat → Nat → Int32) × (Nat → Nat → Int64) × Int64) := if ((lg_cmp s0 3)) = ((0 : Int32)) then om (m_Model_fails n i j a b (2 : Int32)) (fun i_3 j_4 a_5 b_6 r_7 => some (i_3, j_4, a_5, b_6, r_7)) else some (i, j, a, b, s0)
set_option maxHeartbeats 4000000 in
set_option maxRecDepth 100000 in
theorem lb_Model_valueOf_44 (l : Launch) (dC : Nat → ClassId) (dI : Nat → Nat → Nat) (cI cJ cB : ClassId) (adK adV adA : Nat → Nat) (h : Nat) (v : Nat → Nat) (n : Nat) {p : Program} {e : Env} {s : State} {m : MethodId} {args : Array Value} {below : List Frame} {meth : Method} {c : Code} {A : Nat → Prop} (hx : p.tables.exec = Jvm.exec) (hb : c.code = b_Model_valueOf) (hml : c.maxLocals = 6) (hown : s.vm.findClass R_Model = some m.cls) (hts : ∀ w ∈ w_Model_valueOf, w.before args s = true) (hK : va_K (dC, dI) classes [(cI, .int), (cJ, .long), (cB, .byte)] s) (hE : tw_E adK adV adA A s s.heap) (hA : ∀ q : Nat, s.heap.size ≤ q → A q) (hr : meth.sig.returnType = (some .long)) (hlocks : meth.locks = false) {i2 : Nat → Int32} {j2 : Nat → Int64} {a2 : Nat → Nat → Int32} {b2 : Nat → Nat → Int64} {r2 : Int64} (i : Nat → Int32) (j : Nat → Int64) (a : Nat → Nat → Int32) (b : Nat → Nat → Int64) (s0 : Int64) (hm : m_Model_valueOf_b44 n i j a b s0 = some (i2, j2, a2, b2, r2)) : ∀ (H : Heap) (locs : List Loc) (ls : Array Slot), va_P (dC, dI) classes (MW cI cJ cB h v i j a b) H → va_D A (MW cI cJ cB h v i j a b) → va_S A s.heap H locs → lv_has ls 6 [(0, .ref h)] → W p l e ({ frames := 2, cells := 0, slots := 0, locals := 49 } : Room) s m args below meth c H locs 0 0 (MQ below (va_Ql (xR r2) (yB dC dI cI cJ cB h v i2 j2 a2 b2 A) A) args s 0 0 A) (F0 m 44 ls [.long s0]) := by
  have htt : ∀ w ∈ tw_T, w.before _ s = true := fun w h => hts w (List.mem_cons_of_mem _ h)
  intro H locs ls hP hD hS hl
  rw [m_Model_valueOf_b44] at hm
  refine lv_lstore (lv' := [(4, .long s0), (0, .ref h)]) hx hb d_Model_valueOf_44 hl (by decide) rfl (fun ls hl => ?_)
  refine lv_lload hx hb d_Model_valueOf_46 (lv_at hl 0 rfl) ?_
  refine lv_ldc2 (v := 3) hx hb hown (htt _ lk_Model_7) d_Model_valueOf_48 ?_
  refine W.lcmp hx hb d_Model_valueOf_51 ?_
  refine lv_if_ne (tgt := 63) hx hb d_Model_valueOf_52 (by decide) (fun c_1 => ?_) (fun c_1 => ?_)
  · replace hm := if_f c_1 hm
    refine lv_lload hx hb d_Model_valueOf_63 (lv_at hl 0 rfl) ?_
    obtain ⟨e1i, e1j, e1a, e1b, e3⟩ := re4m hm
    obtain ⟨hP, hD⟩ := y_eq e1i e1j e1a e1b hP hD
    exact W.lret hx hb hr (fun t9 ht hW => ⟨⟨_, (), rfl, e3.symm, by rw [ht]; exact hP, hD⟩, hS.F ht⟩) hS.2.2 d_Model_valueOf_65
  · replace hm := if_t c_1 hm
    refine lv_aload_n hx hb d_Model_valueOf_55 rfl (lv_at hl 1 rfl) ?_
    refine lv_iconst (v := 2) hx hb d_Model_valueOf_56 (by decide) ?_
    obtain ⟨i_3, j_4, a_5, b_6, r_7, h_2, hm⟩ := om_some hm
    have hFc := x_free hD hS hA
    refine va_calll (va_runV (As := [.int 2]) (rest := []) ⟨hx, hb, hml, hown, hts⟩ (x_Model_fails l dC dI cI cJ cB adK adV adA h v H.size n h_2) (cwV 1 hts (tw_GV tw_cons cw_Model_fails lk_Model_596 in_Model_fails sel_Model_fails ini_Model) rfl rfl rfl ⟨rfl, hd_Model_fails⟩ ⟨Nat.le_of_ble_eq_true rfl, Nat.le_of_ble_eq_true rfl⟩) (ypV hK hP hD hS hE hFc yo_12 rfl) rfl rfl hl.1 rfl (lv_room (Nat.le_of_ble_eq_true rfl)) d_Model_valueOf_57 ⟨Nat.le_of_ble_eq_true rfl, Nat.le_of_ble_eq_true rfl⟩) hS (fun q _ h => hFc q h) hFc (fun r9 u9 t9 H locs ht hvm e9 hB hz1 hk1 hS => ?_)
    have e9 : r_7 = r9 := e9
    subst e9
    obtain ⟨hP, hD⟩ := y_aft hB ht hFc
    clear hFc hk1 hz1 hvm hB ht
    refine lv_goto (tgt := 65) hx hb d_Model_valueOf_60 (by decide) ?_
    obtain ⟨e1i, e1j, e1a, e1b, e3⟩ := re4m hm
    obtain ⟨hP, hD⟩ := y_eq e1i e1j e1a e1b hP hD
    exact W.lret hx hb hr (fun t9 ht hW => ⟨⟨_, (), rfl, e3.symm, by rw [ht]; exact hP, hD⟩, hS.F ht⟩) hS.2.2 d_Model_valueOf_65
def m_Model_valueOf (n : Nat) (i : Nat → Int32) (j : Nat → Int64) (a : Nat → Nat → Int32) (b : Nat → Nat → Int64) (v1 : Int32) (v2 : Int32) : Option ((Nat → Int32) × (Nat → Int64) × (Nat → Nat → Int32) × (Nat → Nat → Int64) × Int64) := ob0 (m_Model_found n i j a b v1 v2) (fun r_2 => if r_2 = ((-1 : Int32)) then m_Model_valueOf_b44 n i j a b (3 : Int64) else if r_2 < ((10000 : Int32)) then ck r_2 1800 (m_Model_valueOf_b44 n i j a b (b 115 r_2.toNatClampNeg)) else ck ((r_2 - 10000)) 64 (m_Model_valueOf_b44 n i j a b (b 35 (r_2 - 10000).toNatClampNeg)))
set_option maxHeartbeats 4000000 in
set_option maxRecDepth 100000 in
theorem x_Model_valueOf (l : Launch) (dC : Nat → ClassId) (dI : Nat → Nat → Nat) (cI cJ cB : ClassId) (adK adV adA : Nat → Nat) (h : Nat) (v : Nat → Nat) (sz : Nat) (n : Nat) {i : Nat → Int32} {j : Nat → Int64} {a : Nat → Nat → Int32} {b : Nat → Nat → Int64} {v1 : Int32} {v2 : Int32} {i2 : Nat → Int32} {j2 : Nat → Int64} {a2 : Nat → Nat → Int32} {b2 : Nat → Nat → Int64} {r2 : Int64} (hm : m_Model_valueOf n i j a b v1 v2 = some (i2, j2, a2, b2, r2)) : Met l y_Model_valueOf w_Model_valueOf ({ frames := 2, cells := 0, slots := 0, locals := 49 } : Room) (va_Pc [.ref h, .int v1, .int v2] (yE dC dI cI cJ cB adK adV adA h v i j a b sz)) (va_Ql (xR r2) (yB dC dI cI cJ cB h v i2 j2 a2 b2 (va_A (MW cI cJ cB h v i j a b) sz)) (va_A (MW cI cJ cB h v i j a b) sz)) 0 0 ((va_A (MW cI cJ cB h v i j a b) sz)) := by
  refine Met.ofW (cc := b_Model_valueOf) (maxL := 6) (ret := (some .long)) (by decide) rfl ?_
  intro p e s m args below meth c s₁ B hml hv
  obtain ⟨rfl, hsz, hP, hK, hE, hD0⟩ := hv
  have hx := B.exec
  have hb := B.bytes
  have hr := B.returns
  have hts := atoms_spec (ws := w_Model_valueOf) B.pre
  have htt : ∀ w ∈ tw_T, w.before _ s = true := fun w h => hts w (List.mem_cons_of_mem _ h)
  have hown : s.vm.findClass R_Model = some m.cls := findClass_of_methodNamed B.named
  have hlocks := B.notSynchronized
  subst hsz
  have hD := hD0.self (sz := s.heap.size)
  generalize hAe : (va_A (MW cI cJ cB h v i j a b) s.heap.size) = A at hD hE ⊢
  have hA : ∀ q : Nat, s.heap.size ≤ q → A q := fun q h => by rw [← hAe]; exact Or.inr h
  have hS : va_S A s.heap s.heap [] := va_S.rf
  have hl := lv_entry ([.ref h, .int v1, .int v2]) (n := 6) (Nat.le_of_ble_eq_true rfl)
  rw [lg_entry_eq]
  generalize (lg_sl ([.ref h, .int v1, .int v2]) ++ List.replicate (6 - (lg_sl ([.ref h, .int v1, .int v2])).length) Slot.unset).toArray = ls at hl ⊢
  have hl : lv_has ls 6 [(0, .ref h), (1, .int v1), (2, .int v2)] := hl
  rw [m_Model_valueOf] at hm
  refine lv_aload_n hx hb d_Model_valueOf_0 rfl (lv_at hl 0 rfl) ?_
  refine lv_iload_n hx hb d_Model_valueOf_1 rfl (lv_at hl 1 rfl) ?_
  refine lv_iload_n hx hb d_Model_valueOf_2 rfl (lv_at hl 2 rfl) ?_
  obtain ⟨r_2, h_1, hm⟩ := ob0_some hm
  have hFc := x_free0 hS hA
  refine va_calli (va_runV (As := [.int v1, .int v2]) (rest := []) ⟨hx, hb, hml, hown, hts⟩ (x_Model_found l dC dI cI cJ cB adK adV adA h v s.heap.size n h_1) (cwV 2 hts (tw_GV tw_cons cw_Model_found lk_Model_639 in_Model_found sel_Model_found ini_Model) rfl rfl rfl ⟨rfl, hd_Model_found⟩ ⟨Nat.le_of_ble_eq_true rfl, Nat.le_of_ble_eq_true rfl⟩) (ypVr hK hP hS hE hFc yo_12 rfl) rfl rfl hl.1 rfl (lv_room (Nat.le_of_ble_eq_true rfl)) d_Model_valueOf_3 ⟨Nat.le_of_ble_eq_true rfl, Nat.le_of_ble_eq_true rfl⟩) hS (fun q _ h => hFc q h) hFc (fun r9 u9 t9 H locs ht hvm e9 hB hz1 hk1 hS => ?_)
  have e9 : r_2 = r9 := e9
  subst e9
  replace hP := x_keep hP hk1
  clear hFc hk1 hz1 hvm hB ht
  refine lv_istore_n (lv' := [(3, .int r_2), (0, .ref h), (1, .int v1), (2, .int v2)]) hx hb d_Model_valueOf_6 rfl hl (by decide) rfl (fun ls hl => ?_)
  refine lv_iload_n hx hb d_Model_valueOf_7 rfl (lv_at hl 0 rfl) ?_
  refine lv_iconst (v := -1) hx hb d_Model_valueOf_8 (by decide) ?_
  refine lv_icmp_ne (tgt := 18) hx hb d_Model_valueOf_9 (by decide) (fun c_3 => ?_) (fun c_3 => ?_)
  · replace hm := if_f c_3 hm
    refine lv_iload_n hx hb d_Model_valueOf_18 rfl (lv_at hl 0 rfl) ?_
    refine lv_sipush (v := 10000) hx hb d_Model_valueOf_19 (by decide) ?_
    refine lv_icmp_lt (tgt := 38) hx hb d_Model_valueOf_22 (by decide) (fun c_4 => ?_) (fun c_4 => ?_)
    · replace hm := if_t c_4 hm
      refine lv_aload_n hx hb d_Model_valueOf_38 rfl (lv_at hl 1 rfl) ?_
      refine va_get (D := (dC, dI)) (ci := 12) (v := .ref ((v 115))) (C := R_Model) (T := F_Model) (N := 127) hx hb htt iw_Model hown hK hP 0 yo_12 rfl 115 (Nat.le_of_ble_eq_true rfl) (htt _ lk_Model_313) (fun _ h9 => h9) yg_115 d_Model_valueOf_39 ?_
      refine lv_iload_n hx hb d_Model_valueOf_42 rfl (lv_at hl 0 rfl) ?_
      obtain ⟨h_5, hm⟩ := ck_some hm
      refine va_lald hx hb hK hP 65 1 ya_115 rfl h_5 d_Model_valueOf_43 ?_
      exact lb_Model_valueOf_44 l dC dI cI cJ cB adK adV adA h v n hx hb hml hown hts hK hE hA hr hlocks _ _ _ _ _ hm _ _ _ hP hD hS (lv_sub hl [1] rfl)
    · replace hm := if_f c_4 hm
      refine lv_aload_n hx hb d_Model_valueOf_25 rfl (lv_at hl 1 rfl) ?_
      refine va_get (D := (dC, dI)) (ci := 12) (v := .ref ((v 35))) (C := R_Model) (T := F_Model) (N := 127) hx hb htt iw_Model hown hK hP 0 yo_12 rfl 35 (Nat.le_of_ble_eq_true rfl) (htt _ lk_Model_198) (fun _ h9 => h9) yg_35 d_Model_valueOf_26 ?_
      refine lv_iload_n hx hb d_Model_valueOf_29 rfl (lv_at hl 0 rfl) ?_
      refine lv_sipush (v := 10000) hx hb d_Model_valueOf_30 (by decide) ?_
      refine lv_isub hx hb d_Model_valueOf_33 ?_
      obtain ⟨h_6, hm⟩ := ck_some hm
      refine va_lald hx hb hK hP 28 1 ya_35 rfl h_6 d_Model_valueOf_34 ?_
      refine lv_goto (tgt := 44) hx hb d_Model_valueOf_35 (by decide) ?_
      exact lb_Model_valueOf_44 l dC dI cI cJ cB adK adV adA h v n hx hb hml hown hts hK hE hA hr hlocks _ _ _ _ _ hm _ _ _ hP hD hS (lv_sub hl [1] rfl)
  · replace hm := if_t c_3 hm
    refine lv_ldc2 (v := 3) hx hb hown (htt _ lk_Model_7) d_Model_valueOf_12 ?_
    refine lv_goto (tgt := 44) hx hb d_Model_valueOf_15 (by decide) ?_
    exact lb_Model_valueOf_44 l dC dI cI cJ cB adK adV adA h v n hx hb hml hown hts hK hE hA hr hlocks _ _ _ _ _ hm _ _ _ hP hD hS (lv_sub hl [1] rfl)

def m_Model_closed (n : Nat) (i : Nat → Int32) (j : Nat → Int64) (a : Nat → Nat → Int32) (b : Nat → Nat → Int64) (v1 : Int64) : Option ((Nat → Int32) × (Nat → Int64) × (Nat → Nat → Int32) × (Nat → Nat → Int64) × Int64) := ck ((i 105)) 90000 (if ((i 106)) < ((a 13 (i 105).toNatClampNeg)) then ck ((i 105)) 90000 (ck (((a 12 (i 105).toNatClampNeg) + (i 106))) 90000 (ob1 (b 10 ((a 12 (i 105).toNatClampNeg) + (i 106)).toNatClampNeg : Int64) (fun x_5 => ob0 (m_Model_isWord n x_5) (fun r_7 => if r_7 = ((0 : Int32)) then om (m_Model_fails n i j a b (4 : Int32)) (fun i_10 j_11 a_12 b_13 r_14 => some (i_10, j_11, a_12, b_13, r_14)) else ob0 (m_Model_what n x_5) (fun r_16 => ob0 (m_Model_isText n i j a b r_16 (13 : Nat)) (fun r_18 => if r_18 = ((0 : Int32)) then om (m_Model_fails n i j a b (4 : Int32)) (fun i_25 j_26 a_27 b_28 r_29 => some (i_25, j_26, a_27, b_28, r_29)) else ob1 ((i 106) + 1 : Int32) (fun x_20 => ob1 (upd i 106 x_20 : Nat → Int32) (fun i_21 => ob1 ((i_21 98) - 1 : Int32) (fun x_22 => ob1 (upd i_21 98 x_22 : Nat → Int32) (fun i_23 => some (i_23, j, a, b, v1))))))))))) else om (m_Model_fails n i j a b (4 : Int32)) (fun i_31 j_32 a_33 b_34 r_35 => some (i_31, j_32, a_33, b_34, r_35)))
set_option maxHeartbeats 4000000 in
set_option maxRecDepth 100000 in
theorem x_Model_closed (l : Launch) (dC : Nat → ClassId) (dI : Nat → Nat → Nat) (cI cJ cB : ClassId) (adK adV adA : Nat → Nat) (h : Nat) (v : Nat → Nat) (sz : Nat) (n : Nat) {i : Nat → Int32} {j : Nat → Int64} {a : Nat → Nat → Int32} {b : Nat → Nat → Int64} {v1 : Int64} {i2 : Nat → Int32} {j2 : Nat → Int64} {a2 : Nat → Nat → Int32} {b2 : Nat → Nat → Int64} {r2 : Int64} (hm : m_Model_closed n i j a b v1 = some (i2, j2, a2, b2, r2)) : Met l y_Model_closed w_Model_closed ({ frames := 5, cells := 0, slots := 0, locals := 108 } : Room) (va_Pc [.ref h, .long v1] (yE dC dI cI cJ cB adK adV adA h v i j a b sz)) (va_Ql (xR r2) (yB dC dI cI cJ cB h v i2 j2 a2 b2 (va_A (MW cI cJ cB h v i j a b) sz)) (va_A (MW cI cJ cB h v i j a b) sz)) 0 0 ((va_A (MW cI cJ cB h v i j a b) sz)) := by
  refine Met.ofW (cc := b_Model_closed) (maxL := 5) (ret := (some .long)) (by decide) rfl ?_
  intro p e s m args below meth c s₁ B hml hv
  obtain ⟨rfl, hsz, hP, hK, hE, hD0⟩ := hv
  have hx := B.exec
  have hb := B.bytes
  have hr := B.returns
  have hts := atoms_spec (ws := w_Model_closed) B.pre
  have htt : ∀ w ∈ tw_T, w.before _ s = true := fun w h => hts w (List.mem_cons_of_mem _ h)
  have hown : s.vm.findClass R_Model = some m.cls := findClass_of_methodNamed B.named
  have hlocks := B.notSynchronized
  subst hsz
  have hD := hD0.self (sz := s.heap.size)
  generalize hAe : (va_A (MW cI cJ cB h v i j a b) s.heap.size) = A at hD hE ⊢
  have hA : ∀ q : Nat, s.heap.size ≤ q → A q := fun q h => by rw [← hAe]; exact Or.inr h
  have hS : va_S A s.heap s.heap [] := va_S.rf
  have hl := lv_entry ([.ref h, .long v1]) (n := 5) (Nat.le_of_ble_eq_true rfl)
  rw [lg_entry_eq]
  generalize (lg_sl ([.ref h, .long v1]) ++ List.replicate (5 - (lg_sl ([.ref h, .long v1])).length) Slot.unset).toArray = ls at hl ⊢
  have hl : lv_has ls 5 [(0, .ref h), (1, .long v1)] := hl
  rw [m_Model_closed] at hm
  refine lv_aload_n hx hb d_Model_closed_0 rfl (lv_at hl 0 rfl) ?_
  refine va_get (D := (dC, dI)) (ci := 12) (v := .int (i 106)) (C := R_Model) (T := F_Model) (N := 127) hx hb htt iw_Model hown hK hP 0 yo_12 rfl 106 (Nat.le_of_ble_eq_true rfl) (htt _ lk_Model_590) (fun _ h9 => h9) yg_106 d_Model_closed_1 ?_
  refine lv_aload_n hx hb d_Model_closed_4 rfl (lv_at hl 0 rfl) ?_
  refine va_get (D := (dC, dI)) (ci := 12) (v := .ref ((v 13))) (C := R_Model) (T := F_Model) (N := 127) hx hb htt iw_Model hown hK hP 0 yo_12 rfl 13 (Nat.le_of_ble_eq_true rfl) (htt _ lk_Model_47) (fun _ h9 => h9) yg_13 d_Model_closed_5 ?_
  refine lv_aload_n hx hb d_Model_closed_8 rfl (lv_at hl 0 rfl) ?_
  refine va_get (D := (dC, dI)) (ci := 12) (v := .int (i 105)) (C := R_Model) (T := F_Model) (N := 127) hx hb htt iw_Model hown hK hP 0 yo_12 rfl 105 (Nat.le_of_ble_eq_true rfl) (htt _ lk_Model_587) (fun _ h9 => h9) yg_105 d_Model_closed_9 ?_
  obtain ⟨h_1, hm⟩ := ck_some hm
  refine va_iald hx hb hK hP 13 0 ya_13 rfl h_1 d_Model_closed_12 ?_
  refine lv_icmp_lt (tgt := 22) hx hb d_Model_closed_13 (by decide) (fun c_2 => ?_) (fun c_2 => ?_)
  · replace hm := if_t c_2 hm
    refine lv_aload_n hx hb d_Model_closed_22 rfl (lv_at hl 0 rfl) ?_
    refine va_get (D := (dC, dI)) (ci := 12) (v := .ref ((v 10))) (C := R_Model) (T := F_Model) (N := 127) hx hb htt iw_Model hown hK hP 0 yo_12 rfl 10 (Nat.le_of_ble_eq_true rfl) (htt _ lk_Model_35) (fun _ h9 => h9) yg_10 d_Model_closed_23 ?_
    refine lv_aload_n hx hb d_Model_closed_26 rfl (lv_at hl 0 rfl) ?_
    refine va_get (D := (dC, dI)) (ci := 12) (v := .ref ((v 12))) (C := R_Model) (T := F_Model) (N := 127) hx hb htt iw_Model hown hK hP 0 yo_12 rfl 12 (Nat.le_of_ble_eq_true rfl) (htt _ lk_Model_41) (fun _ h9 => h9) yg_12 d_Model_closed_27 ?_
    refine lv_aload_n hx hb d_Model_closed_30 rfl (lv_at hl 0 rfl) ?_
    refine va_get (D := (dC, dI)) (ci := 12) (v := .int (i 105)) (C := R_Model) (T := F_Model) (N := 127) hx hb htt iw_Model hown hK hP 0 yo_12 rfl 105 (Nat.le_of_ble_eq_true rfl) (htt _ lk_Model_587) (fun _ h9 => h9) yg_105 d_Model_closed_31 ?_
    obtain ⟨h_3, hm⟩ := ck_some hm
    refine va_iald hx hb hK hP 12 0 ya_12 rfl h_3 d_Model_closed_34 ?_
    refine lv_aload_n hx hb d_Model_closed_35 rfl (lv_at hl 0 rfl) ?_
    refine va_get (D := (dC, dI)) (ci := 12) (v := .int (i 106)) (C := R_Model) (T := F_Model) (N := 127) hx hb htt iw_Model hown hK hP 0 yo_12 rfl 106 (Nat.le_of_ble_eq_true rfl) (htt _ lk_Model_590) (fun _ h9 => h9) yg_106 d_Model_closed_36 ?_
    refine lv_iadd hx hb d_Model_closed_39 ?_
    obtain ⟨h_4, hm⟩ := ck_some hm
    refine va_lald hx hb hK hP 10 1 ya_10 rfl h_4 d_Model_closed_40 ?_
    refine lv_topl (fun x_5 ex_5 => ?_)
    replace hm := ob1_at ex_5 hm
    refine lv_lstore_n (lv' := [(3, .long x_5), (0, .ref h), (1, .long v1)]) hx hb d_Model_closed_41 rfl hl (by decide) rfl (fun ls hl => ?_)
    refine lv_lload_n hx hb d_Model_closed_42 rfl (lv_at hl 0 rfl) ?_
    obtain ⟨r_7, h_6, hm⟩ := ob0_some hm
    have hFc := x_free0 hS hA
    refine va_calli (va_runS (As := [.long x_5]) (rest := []) ⟨hx, hb, hml, hown, hts⟩ (x_Model_isWord l s.heap.size n h_6) (va_cwS 1 hts (tw_GS tw_cons cw_Model_isWord lk_Model_61 st_Model_isWord ini_Model) rfl rfl rfl hd_Model_isWord ⟨Nat.le_of_ble_eq_true rfl, Nat.le_of_ble_eq_true rfl⟩) xpS0 rfl rfl hl.1 rfl (lv_room (Nat.le_of_ble_eq_true rfl)) d_Model_closed_43 ⟨Nat.le_of_ble_eq_true rfl, Nat.le_of_ble_eq_true rfl⟩) hS (fun q _ h => hFc q h) hFc (fun r9 u9 t9 H locs ht hvm e9 hB hz1 hk1 hS => ?_)
    have e9 : r_7 = r9 := e9
    subst e9
    replace hP := x_keep hP hk1
    clear hFc hk1 hz1 hvm hB ht
    refine lv_if_eq (tgt := 63) hx hb d_Model_closed_46 (by decide) (fun c_8 => ?_) (fun c_8 => ?_)
    · replace hm := if_t c_8 hm
      refine lv_aload_n hx hb d_Model_closed_63 rfl (lv_at hl 1 rfl) ?_
      refine lv_iconst (v := 4) hx hb d_Model_closed_64 (by decide) ?_
      obtain ⟨i_10, j_11, a_12, b_13, r_14, h_9, hm⟩ := om_some hm
      have hFc := x_free hD hS hA
      refine va_calll (va_runV (As := [.int 4]) (rest := []) ⟨hx, hb, hml, hown, hts⟩ (x_Model_fails l dC dI cI cJ cB adK adV adA h v H.size n h_9) (cwV 1 hts (tw_GV tw_cons cw_Model_fails lk_Model_596 in_Model_fails sel_Model_fails ini_Model) rfl rfl rfl ⟨rfl, hd_Model_fails⟩ ⟨Nat.le_of_ble_eq_true rfl, Nat.le_of_ble_eq_true rfl⟩) (ypV hK hP hD hS hE hFc yo_12 rfl) rfl rfl hl.1 rfl (lv_room (Nat.le_of_ble_eq_true rfl)) d_Model_closed_65 ⟨Nat.le_of_ble_eq_true rfl, Nat.le_of_ble_eq_true rfl⟩) hS (fun q _ h => hFc q h) hFc (fun r9 u9 t9 H locs ht hvm e9 hB hz1 hk1 hS => ?_)
      have e9 : r_14 = r9 := e9
      subst e9
      obtain ⟨hP, hD⟩ := y_aft hB ht hFc
      clear hFc hk1 hz1 hvm hB ht
      obtain ⟨e1i, e1j, e1a, e1b, e3⟩ := re4m hm
      obtain ⟨hP, hD⟩ := y_eq e1i e1j e1a e1b hP hD
      exact W.lret hx hb hr (fun t9 ht hW => ⟨⟨_, (), rfl, e3.symm, by rw [ht]; exact hP, hD⟩, hS.F ht⟩) hS.2.2 d_Model_closed_68
    · replace hm := if_f c_8 hm
      refine lv_aload_n hx hb d_Model_closed_49 rfl (lv_at hl 1 rfl) ?_
      refine lv_lload_n hx hb d_Model_closed_50 rfl (lv_at hl 0 rfl) ?_
      obtain ⟨r_16, h_15, hm⟩ := ob0_some hm
      have hFc := x_free0 hS hA
      refine va_calli (va_runS (As := [.long x_5]) (rest := [.ref h]) ⟨hx, hb, hml, hown, hts⟩ (x_Model_what l H.size n h_15) (va_cwS 1 hts (tw_GS tw_cons cw_Model_what lk_Model_64 st_Model_what ini_Model) rfl rfl rfl hd_Model_what ⟨Nat.le_of_ble_eq_true rfl, Nat.le_of_ble_eq_true rfl⟩) xpS0 rfl rfl hl.1 rfl (lv_room (Nat.le_of_ble_eq_true rfl)) d_Model_closed_51 ⟨Nat.le_of_ble_eq_true rfl, Nat.le_of_ble_eq_true rfl⟩) hS (fun q _ h => hFc q h) hFc (fun r9 u9 t9 H locs ht hvm e9 hB hz1 hk1 hS => ?_)
      have e9 : r_16 = r9 := e9
      subst e9
      replace hP := x_keep hP hk1
      clear hFc hk1 hz1 hvm hB ht
      refine tw_ldcwS hx hb hown (show vk_R "TurtleWorldModel" 637 _ (adK 13) s from hE.ref 13 (by decide)) d_Model_closed_54 ?_
      obtain ⟨r_18, h_17, hm⟩ := ob0_some hm
      have hFc := x_free0 hS hA
      refine va_calli (va_runV (As := [.int r_16, .ref (adK 13)]) (rest := []) ⟨hx, hb, hml, hown, hts⟩ (x_Model_isText l dC dI cI cJ cB adK adV adA h v H.size n h_17) (cwV 2 hts (tw_GV tw_cons cw_Model_isText lk_Model_473 in_Model_isText sel_Model_isText ini_Model) rfl rfl rfl ⟨rfl, hd_Model_isText⟩ ⟨Nat.le_of_ble_eq_true rfl, Nat.le_of_ble_eq_true rfl⟩) (ypVr hK hP hS hE hFc yo_12 rfl) rfl rfl hl.1 rfl (lv_room (Nat.le_of_ble_eq_true rfl)) d_Model_closed_57 ⟨Nat.le_of_ble_eq_true rfl, Nat.le_of_ble_eq_true rfl⟩) hS (fun q _ h => hFc q h) hFc (fun r9 u9 t9 H locs ht hvm e9 hB hz1 hk1 hS => ?_)
      have e9 : r_18 = r9 := e9
      subst e9
      replace hP := x_keep hP hk1
      clear hFc hk1 hz1 hvm hB ht
      refine lv_if_ne (tgt := 69) hx hb d_Model_closed_60 (by decide) (fun c_19 => ?_) (fun c_19 => ?_)
      · replace hm := if_f c_19 hm
        refine lv_aload_n hx hb d_Model_closed_69 rfl (lv_at hl 1 rfl) ?_
        refine lv_dup hx hb d_Model_closed_70 rfl ?_
        refine va_get (D := (dC, dI)) (ci := 12) (v := .int (i 106)) (C := R_Model) (T := F_Model) (N := 127) hx hb htt iw_Model hown hK hP 0 yo_12 rfl 106 (Nat.le_of_ble_eq_true rfl) (htt _ lk_Model_590) (fun _ h9 => h9) yg_106 d_Model_closed_71 ?_
        refine lv_iconst (v := 1) hx hb d_Model_closed_74 (by decide) ?_
        refine lv_iadd hx hb d_Model_closed_75 ?_
        refine lv_topi (fun x_20 ex_20 => ?_)
        replace hm := ob1_at ex_20 hm
        refine va_put (D := (dC, dI)) (ci := 12) (v := .int x_20) (ty := .int) (C := R_Model) (T := F_Model) (N := 127) hx hb htt iw_Model t_Model t_Model_ok n_Model hown hK hP hD hS 0 yo_12 rfl 106 (Nat.le_of_ble_eq_true rfl) (htt _ lk_Model_590) (fun _ h9 => h9) rfl (by decide +kernel) rfl rfl yl_106 d_Model_closed_76 (fun H locs hP hD hS => ?_)
        obtain ⟨i_21, ei_21⟩ : ∃ y9 : Nat → Int32, y9 = upd i 106 x_20 := ⟨_, rfl⟩
        replace hm := ob1_at ei_21 hm
        obtain ⟨hP, hD⟩ := yw_106 ei_21 hP hD
        refine lv_aload_n hx hb d_Model_closed_79 rfl (lv_at hl 1 rfl) ?_
        refine lv_dup hx hb d_Model_closed_80 rfl ?_
        refine va_get (D := (dC, dI)) (ci := 12) (v := .int (i_21 98)) (C := R_Model) (T := F_Model) (N := 127) hx hb htt iw_Model hown hK hP 0 yo_12 rfl 98 (Nat.le_of_ble_eq_true rfl) (htt _ lk_Model_535) (fun _ h9 => h9) yg_98 d_Model_closed_81 ?_
        refine lv_iconst (v := 1) hx hb d_Model_closed_84 (by decide) ?_
        refine lv_isub hx hb d_Model_closed_85 ?_
        refine lv_topi (fun x_22 ex_22 => ?_)
        replace hm := ob1_at ex_22 hm
        refine va_put (D := (dC, dI)) (ci := 12) (v := .int x_22) (ty := .int) (C := R_Model) (T := F_Model) (N := 127) hx hb htt iw_Model t_Model t_Model_ok n_Model hown hK hP hD hS 0 yo_12 rfl 98 (Nat.le_of_ble_eq_true rfl) (htt _ lk_Model_535) (fun _ h9 => h9) rfl (by decide +kernel) rfl rfl yl_98 d_Model_closed_86 (fun H locs hP hD hS => ?_)
        obtain ⟨i_23, ei_23⟩ : ∃ y9 : Nat → Int32, y9 = upd i_21 98 x_22 := ⟨_, rfl⟩
        replace hm := ob1_at ei_23 hm
        obtain ⟨hP, hD⟩ := yw_98 ei_23 hP hD
        refine lv_lload_n hx hb d_Model_closed_89 rfl (lv_at hl 2 rfl) ?_
        obtain ⟨e1i, e1j, e1a, e1b, e3⟩ := re4m hm
        obtain ⟨hP, hD⟩ := y_eq e1i e1j e1a e1b hP hD
        exact W.lret hx hb hr (fun t9 ht hW => ⟨⟨_, (), rfl, e3.symm, by rw [ht]; exact hP, hD⟩, hS.F ht⟩) hS.2.2 d_Model_closed_90
      · replace hm := if_t c_19 hm
        refine lv_aload_n hx hb d_Model_closed_63 rfl (lv_at hl 1 rfl) ?_
        refine lv_iconst (v := 4) hx hb d_Model_closed_64 (by decide) ?_
        obtain ⟨i_25, j_26, a_27, b_28, r_29, h_24, hm⟩ := om_some hm
        have hFc := x_free hD hS hA
        refine va_calll (va_runV (As := [.int 4]) (rest := []) ⟨hx, hb, hml, hown, hts⟩ (x_Model_fails l dC dI cI cJ cB adK adV adA h v H.size n h_24) (cwV 1 hts (tw_GV tw_cons cw_Model_fails lk_Model_596 in_Model_fails sel_Model_fails ini_Model) rfl rfl rfl ⟨rfl, hd_Model_fails⟩ ⟨Nat.le_of_ble_eq_true rfl, Nat.le_of_ble_eq_true rfl⟩) (ypV hK hP hD hS hE hFc yo_12 rfl) rfl rfl hl.1 rfl (lv_room (Nat.le_of_ble_eq_true rfl)) d_Model_closed_65 ⟨Nat.le_of_ble_eq_true rfl, Nat.le_of_ble_eq_true rfl⟩) hS (fun q _ h => hFc q h) hFc (fun r9 u9 t9 H locs ht hvm e9 hB hz1 hk1 hS => ?_)
        have e9 : r_29 = r9 := e9
        subst e9
        obtain ⟨hP, hD⟩ := y_aft hB ht hFc
        clear hFc hk1 hz1 hvm hB ht
        obtain ⟨e1i, e1j, e1a, e1b, e3⟩ := re4m hm
        obtain ⟨hP, hD⟩ := y_eq e1i e1j e1a e1b hP hD
        exact W.lret hx hb hr (fun t9 ht hW => ⟨⟨_, (), rfl, e3.symm, by rw [ht]; exact hP, hD⟩, hS.F ht⟩) hS.2.2 d_Model_closed_68
  · replace hm := if_f c_2 hm
    refine lv_aload_n hx hb d_Model_closed_16 rfl (lv_at hl 0 rfl) ?_
    refine lv_iconst (v := 4) hx hb d_Model_closed_17 (by decide) ?_
    obtain ⟨i_31, j_32, a_33, b_34, r_35, h_30, hm⟩ := om_some hm
    have hFc := x_free hD hS hA
    refine va_calll (va_runV (As := [.int 4]) (rest := []) ⟨hx, hb, hml, hown, hts⟩ (x_Model_fails l dC dI cI cJ cB adK adV adA h v s.heap.size n h_30) (cwV 1 hts (tw_GV tw_cons cw_Model_fails lk_Model_596 in_Model_fails sel_Model_fails ini_Model) rfl rfl rfl ⟨rfl, hd_Model_fails⟩ ⟨Nat.le_of_ble_eq_true rfl, Nat.le_of_ble_eq_true rfl⟩) (ypV hK hP hD hS hE hFc yo_12 rfl) rfl rfl hl.1 rfl (lv_room (Nat.le_of_ble_eq_true rfl)) d_Model_closed_18 ⟨Nat.le_of_ble_eq_true rfl, Nat.le_of_ble_eq_true rfl⟩) hS (fun q _ h => hFc q h) hFc (fun r9 u9 t9 H locs ht hvm e9 hB hz1 hk1 hS => ?_)
    have e9 : r_35 = r9 := e9
    subst e9
    obtain ⟨hP, hD⟩ := y_aft hB ht hFc
    clear hFc hk1 hz1 hvm hB ht
    obtain ⟨e1i, e1j, e1a, e1b, e3⟩ := re4m hm
    obtain ⟨hP, hD⟩ := y_eq e1i e1j e1a e1b hP hD
    exact W.lret hx hb hr (fun t9 ht hW => ⟨⟨_, (), rfl, e3.symm, by rw [ht]; exact hP, hD⟩, hS.F ht⟩) hS.2.2 d_Model_closed_21

def m_Model_minus (n : Nat) (i : Nat → Int32) (j : Nat → Int64) (a : Nat → Nat → Int32) (b : Nat → Nat → Int64) (v1 : Int64) : Option ((Nat → Int32) × (Nat → Int64) × (Nat → Nat → Int32) × (Nat → Nat → Int64) × Int64) := if ((lg_cmp v1 3)) = ((0 : Int32)) then om (m_Model_fails n i j a b (4 : Int32)) (fun i_25 j_26 a_27 b_28 r_29 => some (i_25, j_26, a_27, b_28, r_29)) else ob1 ((i 98) - 1 : Int32) (fun x_2 => ob1 (upd i 98 x_2 : Nat → Int32) (fun i_3 => om (m_Model_begins n i_3 j a b) (fun i_5 j_6 a_7 b_8 r_9 => if r_9 = ((0 : Int32)) then some (i_5, j_6, a_7, b_8, 3) else ob0 (m_Model_isNumber n v1) (fun r_12 => if r_12 = ((0 : Int32)) then om (m_Model_fails n i_5 j_6 a_7 b_8 (3 : Int32)) (fun i_15 j_16 a_17 b_18 r_19 => some (i_15, j_16, a_17, b_18, r_19)) else ob0 (m_Model_what n v1) (fun r_21 => ob0 (m_Model_number n (-r_21)) (fun r_23 => some (i_5, j_6, a_7, b_8, r_23)))))))
set_option maxHeartbeats 4000000 in
set_option maxRecDepth 100000 in
theorem x_Model_minus (l : Launch) (dC : Nat → ClassId) (dI : Nat → Nat → Nat) (cI cJ cB : ClassId) (adK adV adA : Nat → Nat) (h : Nat) (v : Nat → Nat) (sz : Nat) (n : Nat) {i : Nat → Int32} {j : Nat → Int64} {a : Nat → Nat → Int32} {b : Nat → Nat → Int64} {v1 : Int64} {i2 : Nat → Int32} {j2 : Nat → Int64} {a2 : Nat → Nat → Int32} {b2 : Nat → Nat → Int64} {r2 : Int64} (hm : m_Model_minus n i j a b v1 = some (i2, j2, a2, b2, r2)) : Met l y_Model_minus w_Model_minus ({ frames := 2, cells := 0, slots := 0, locals := 42 } : Room) (va_Pc [.ref h, .long v1] (yE dC dI cI cJ cB adK adV adA h v i j a b sz)) (va_Ql (xR r2) (yB dC dI cI cJ cB h v i2 j2 a2 b2 (va_A (MW cI cJ cB h v i j a b) sz)) (va_A (MW cI cJ cB h v i j a b) sz)) 0 0 ((va_A (MW cI cJ cB h v i j a b) sz)) := by
  refine Met.ofW (cc := b_Model_minus) (maxL := 3) (ret := (some .long)) (by decide) rfl ?_
  intro p e s m args below meth c s₁ B hml hv
  obtain ⟨rfl, hsz, hP, hK, hE, hD0⟩ := hv
  have hx := B.exec
  have hb := B.bytes
  have hr := B.returns
  have hts := atoms_spec (ws := w_Model_minus) B.pre
  have htt : ∀ w ∈ tw_T, w.before _ s = true := fun w h => hts w (List.mem_cons_of_mem _ h)
  have hown : s.vm.findClass R_Model = some m.cls := findClass_of_methodNamed B.named
  have hlocks := B.notSynchronized
  subst hsz
  have hD := hD0.self (sz := s.heap.size)
  generalize hAe : (va_A (MW cI cJ cB h v i j a b) s.heap.size) = A at hD hE ⊢
  have hA : ∀ q : Nat, s.heap.size ≤ q → A q := fun q h => by rw [← hAe]; exact Or.inr h
  have hS : va_S A s.heap s.heap [] := va_S.rf
  have hl := lv_entry ([.ref h, .long v1]) (n := 3) (Nat.le_of_ble_eq_true rfl)
  rw [lg_entry_eq]
  generalize (lg_sl ([.ref h, .long v1]) ++ List.replicate (3 - (lg_sl ([.ref h, .long v1])).length) Slot.unset).toArray = ls at hl ⊢
  have hl : lv_has ls 3 [(0, .ref h), (1, .long v1)] := hl
  rw [m_Model_minus] at hm
  refine lv_lload_n hx hb d_Model_minus_0 rfl (lv_at hl 1 rfl) ?_
  refine lv_ldc2 (v := 3) hx hb hown (htt _ lk_Model_7) d_Model_minus_1 ?_
  refine W.lcmp hx hb d_Model_minus_4 ?_
  refine lv_if_ne (tgt := 14) hx hb d_Model_minus_5 (by decide) (fun c_1 => ?_) (fun c_1 => ?_)
  · replace hm := if_f c_1 hm
    refine lv_aload_n hx hb d_Model_minus_14 rfl (lv_at hl 0 rfl) ?_
    refine lv_dup hx hb d_Model_minus_15 rfl ?_
    refine va_get (D := (dC, dI)) (ci := 12) (v := .int (i 98)) (C := R_Model) (T := F_Model) (N := 127) hx hb htt iw_Model hown hK hP 0 yo_12 rfl 98 (Nat.le_of_ble_eq_true rfl) (htt _ lk_Model_535) (fun _ h9 => h9) yg_98 d_Model_minus_16 ?_
    refine lv_iconst (v := 1) hx hb d_Model_minus_19 (by decide) ?_
    refine lv_isub hx hb d_Model_minus_20 ?_
    refine lv_topi (fun x_2 ex_2 => ?_)
    replace hm := ob1_at ex_2 hm
    refine va_put (D := (dC, dI)) (ci := 12) (v := .int x_2) (ty := .int) (C := R_Model) (T := F_Model) (N := 127) hx hb htt iw_Model t_Model t_Model_ok n_Model hown hK hP hD hS 0 yo_12 rfl 98 (Nat.le_of_ble_eq_true rfl) (htt _ lk_Model_535) (fun _ h9 => h9) rfl (by decide +kernel) rfl rfl yl_98 d_Model_minus_21 (fun H locs hP hD hS => ?_)
    obtain ⟨i_3, ei_3⟩ : ∃ y9 : Nat → Int32, y9 = upd i 98 x_2 := ⟨_, rfl⟩
    replace hm := ob1_at ei_3 hm
    obtain ⟨hP, hD⟩ := yw_98 ei_3 hP hD
    refine lv_aload_n hx hb d_Model_minus_24 rfl (lv_at hl 0 rfl) ?_
    obtain ⟨i_5, j_6, a_7, b_8, r_9, h_4, hm⟩ := om_some hm
    have hFc := x_free hD hS hA
    refine va_calli (va_runV (As := []) (rest := []) ⟨hx, hb, hml, hown, hts⟩ (x_Model_begins l dC dI cI cJ cB adK adV adA h v H.size n h_4) (cwV 0 hts (tw_GV tw_cons cw_Model_begins lk_Model_620 in_Model_begins sel_Model_begins ini_Model) rfl rfl rfl ⟨rfl, hd_Model_begins⟩ ⟨Nat.le_of_ble_eq_true rfl, Nat.le_of_ble_eq_true rfl⟩) (ypV hK hP hD hS hE hFc yo_12 rfl) rfl rfl hl.1 rfl (lv_room (Nat.le_of_ble_eq_true rfl)) d_Model_minus_25 ⟨Nat.le_of_ble_eq_true rfl, Nat.le_of_ble_eq_true rfl⟩) hS (fun q _ h => hFc q h) hFc (fun r9 u9 t9 H locs ht hvm e9 hB hz1 hk1 hS => ?_)
    have e9 : r_9 = r9 := e9
    subst e9
    obtain ⟨hP, hD⟩ := y_aft hB ht hFc
    clear hFc hk1 hz1 hvm hB ht
    refine lv_if_ne (tgt := 35) hx hb d_Model_minus_28 (by decide) (fun c_10 => ?_) (fun c_10 => ?_)
    · replace hm := if_f c_10 hm
      refine lv_lload_n hx hb d_Model_minus_35 rfl (lv_at hl 1 rfl) ?_
      obtain ⟨r_12, h_11, hm⟩ := ob0_some hm
      have hFc := x_free0 hS hA
      refine va_calli (va_runS (As := [.long v1]) (rest := []) ⟨hx, hb, hml, hown, hts⟩ (x_Model_isNumber l H.size n h_11) (va_cwS 1 hts (tw_GS tw_cons cw_Model_isNumber lk_Model_57 st_Model_isNumber ini_Model) rfl rfl rfl hd_Model_isNumber ⟨Nat.le_of_ble_eq_true rfl, Nat.le_of_ble_eq_true rfl⟩) xpS0 rfl rfl hl.1 rfl (lv_room (Nat.le_of_ble_eq_true rfl)) d_Model_minus_36 ⟨Nat.le_of_ble_eq_true rfl, Nat.le_of_ble_eq_true rfl⟩) hS (fun q _ h => hFc q h) hFc (fun r9 u9 t9 H locs ht hvm e9 hB hz1 hk1 hS => ?_)
      have e9 : r_12 = r9 := e9
      subst e9
      replace hP := x_keep hP hk1
      clear hFc hk1 hz1 hvm hB ht
      refine lv_if_eq (tgt := 53) hx hb d_Model_minus_39 (by decide) (fun c_13 => ?_) (fun c_13 => ?_)
      · replace hm := if_t c_13 hm
        refine lv_aload_n hx hb d_Model_minus_53 rfl (lv_at hl 0 rfl) ?_
        refine lv_iconst (v := 3) hx hb d_Model_minus_54 (by decide) ?_
        obtain ⟨i_15, j_16, a_17, b_18, r_19, h_14, hm⟩ := om_some hm
        have hFc := x_free hD hS hA
        refine va_calll (va_runV (As := [.int 3]) (rest := []) ⟨hx, hb, hml, hown, hts⟩ (x_Model_fails l dC dI cI cJ cB adK adV adA h v H.size n h_14) (cwV 1 hts (tw_GV tw_cons cw_Model_fails lk_Model_596 in_Model_fails sel_Model_fails ini_Model) rfl rfl rfl ⟨rfl, hd_Model_fails⟩ ⟨Nat.le_of_ble_eq_true rfl, Nat.le_of_ble_eq_true rfl⟩) (ypV hK hP hD hS hE hFc yo_12 rfl) rfl rfl hl.1 rfl (lv_room (Nat.le_of_ble_eq_true rfl)) d_Model_minus_55 ⟨Nat.le_of_ble_eq_true rfl, Nat.le_of_ble_eq_true rfl⟩) hS (fun q _ h => hFc q h) hFc (fun r9 u9 t9 H locs ht hvm e9 hB hz1 hk1 hS => ?_)
        have e9 : r_19 = r9 := e9
        subst e9
        obtain ⟨hP, hD⟩ := y_aft hB ht hFc
        clear hFc hk1 hz1 hvm hB ht
        obtain ⟨e1i, e1j, e1a, e1b, e3⟩ := re4m hm
        obtain ⟨hP, hD⟩ := y_eq e1i e1j e1a e1b hP hD
        exact W.lret hx hb hr (fun t9 ht hW => ⟨⟨_, (), rfl, e3.symm, by rw [ht]; exact hP, hD⟩, hS.F ht⟩) hS.2.2 d_Model_minus_58
      · replace hm := if_f c_13 hm
        refine lv_lload_n hx hb d_Model_minus_42 rfl (lv_at hl 1 rfl) ?_
        obtain ⟨r_21, h_20, hm⟩ := ob0_some hm
        have hFc := x_free0 hS hA
        refine va_calli (va_runS (As := [.long v1]) (rest := []) ⟨hx, hb, hml, hown, hts⟩ (x_Model_what l H.size n h_20) (va_cwS 1 hts (tw_GS tw_cons cw_Model_what lk_Model_64 st_Model_what ini_Model) rfl rfl rfl hd_Model_what ⟨Nat.le_of_ble_eq_true rfl, Nat.le_of_ble_eq_true rfl⟩) xpS0 rfl rfl hl.1 rfl (lv_room (Nat.le_of_ble_eq_true rfl)) d_Model_minus_43 ⟨Nat.le_of_ble_eq_true rfl, Nat.le_of_ble_eq_true rfl⟩) hS (fun q _ h => hFc q h) hFc (fun r9 u9 t9 H locs ht hvm e9 hB hz1 hk1 hS => ?_)
        have e9 : r_21 = r9 := e9
        subst e9
        replace hP := x_keep hP hk1
        clear hFc hk1 hz1 hvm hB ht
        refine lv_ineg hx hb d_Model_minus_46 ?_
        obtain ⟨r_23, h_22, hm⟩ := ob0_some hm
        have hFc := x_free0 hS hA
        refine va_calll (va_runS (As := [.int (-r_21)]) (rest := []) ⟨hx, hb, hml, hown, hts⟩ (x_Model_number l H.size n h_22) (va_cwS 1 hts (tw_GS tw_cons cw_Model_number lk_Model_451 st_Model_number ini_Model) rfl rfl rfl hd_Model_number ⟨Nat.le_of_ble_eq_true rfl, Nat.le_of_ble_eq_true rfl⟩) xpS0 rfl rfl hl.1 rfl (lv_room (Nat.le_of_ble_eq_true rfl)) d_Model_minus_47 ⟨Nat.le_of_ble_eq_true rfl, Nat.le_of_ble_eq_true rfl⟩) hS (fun q _ h => hFc q h) hFc (fun r9 u9 t9 H locs ht hvm e9 hB hz1 hk1 hS => ?_)
        have e9 : r_23 = r9 := e9
        subst e9
        replace hP := x_keep hP hk1
        clear hFc hk1 hz1 hvm hB ht
        refine lv_goto (tgt := 58) hx hb d_Model_minus_50 (by decide) ?_
        obtain ⟨e1i, e1j, e1a, e1b, e3⟩ := re4m hm
        obtain ⟨hP, hD⟩ := y_eq e1i e1j e1a e1b hP hD
        exact W.lret hx hb hr (fun t9 ht hW => ⟨⟨_, (), rfl, e3.symm, by rw [ht]; exact hP, hD⟩, hS.F ht⟩) hS.2.2 d_Model_minus_58
    · replace hm := if_t c_10 hm
      refine lv_ldc2 (v := 3) hx hb hown (htt _ lk_Model_7) d_Model_minus_31 ?_
      obtain ⟨e1i, e1j, e1a, e1b, e3⟩ := re4m hm
      obtain ⟨hP, hD⟩ := y_eq e1i e1j e1a e1b hP hD
      exact W.lret hx hb hr (fun t9 ht hW => ⟨⟨_, (), rfl, e3.symm, by rw [ht]; exact hP, hD⟩, hS.F ht⟩) hS.2.2 d_Model_minus_34
  · replace hm := if_t c_1 hm
    refine lv_aload_n hx hb d_Model_minus_8 rfl (lv_at hl 0 rfl) ?_
    refine lv_iconst (v := 4) hx hb d_Model_minus_9 (by decide) ?_
    obtain ⟨i_25, j_26, a_27, b_28, r_29, h_24, hm⟩ := om_some hm
    have hFc := x_free hD hS hA
    refine va_calll (va_runV (As := [.int 4]) (rest := []) ⟨hx, hb, hml, hown, hts⟩ (x_Model_fails l dC dI cI cJ cB adK adV adA h v s.heap.size n h_24) (cwV 1 hts (tw_GV tw_cons cw_Model_fails lk_Model_596 in_Model_fails sel_Model_fails ini_Model) rfl rfl rfl ⟨rfl, hd_Model_fails⟩ ⟨Nat.le_of_ble_eq_true rfl, Nat.le_of_ble_eq_true rfl⟩) (ypV hK hP hD hS hE hFc yo_12 rfl) rfl rfl hl.1 rfl (lv_room (Nat.le_of_ble_eq_true rfl)) d_Model_minus_10 ⟨Nat.le_of_ble_eq_true rfl, Nat.le_of_ble_eq_true rfl⟩) hS (fun q _ h => hFc q h) hFc (fun r9 u9 t9 H locs ht hvm e9 hB hz1 hk1 hS => ?_)
    have e9 : r_29 = r9 := e9
    subst e9
    obtain ⟨hP, hD⟩ := y_aft hB ht hFc
    clear hFc hk1 hz1 hvm hB ht
    obtain ⟨e1i, e1j, e1a, e1b, e3⟩ := re4m hm
    obtain ⟨hP, hD⟩ := y_eq e1i e1j e1a e1b hP hD
    exact W.lret hx hb hr (fun t9 ht hW => ⟨⟨_, (), rfl, e3.symm, by rw [ht]; exact hP, hD⟩, hS.F ht⟩) hS.2.2 d_Model_minus_13

def m_Model_isTruth (n : Nat) (i : Nat → Int32) (j : Nat → Int64) (a : Nat → Nat → Int32) (b : Nat → Nat → Int64) (v1 : Int64) : Option (Int32) := ob0 (m_Model_isWord n v1) (fun r_2 => if r_2 = ((0 : Int32)) then some 0 else ob0 (m_Model_what n v1) (fun r_5 => ob0 (m_Model_isText n i j a b r_5 (11 : Nat)) (fun r_7 => if r_7 = ((0 : Int32)) then ob0 (m_Model_what n v1) (fun r_10 => ob0 (m_Model_isText n i j a b r_10 (12 : Nat)) (fun r_12 => if r_12 = ((0 : Int32)) then some 0 else some 1)) else some 1)))
set_option maxHeartbeats 4000000 in
set_option maxRecDepth 100000 in
theorem x_Model_isTruth (l : Launch) (dC : Nat → ClassId) (dI : Nat → Nat → Nat) (cI cJ cB : ClassId) (adK adV adA : Nat → Nat) (h : Nat) (v : Nat → Nat) (sz : Nat) (n : Nat) {i : Nat → Int32} {j : Nat → Int64} {a : Nat → Nat → Int32} {b : Nat → Nat → Int64} {v1 : Int64} {r2 : Int32} (hm : m_Model_isTruth n i j a b v1 = some r2) : Met l y_Model_isTruth w_Model_isTruth ({ frames := 5, cells := 0, slots := 0, locals := 108 } : Room) (va_Pc [.ref h, .long v1] (yEr dC dI cI cJ cB adK adV adA h v i j a b sz)) (va_Qi (xR r2) xT (xN sz)) 0 0 (xN sz) := by
  refine Met.ofW (cc := b_Model_isTruth) (maxL := 3) (ret := (some .boolean)) (by decide) rfl ?_
  intro p e s m args below meth c s₁ B hml hv
  obtain ⟨rfl, hsz, hP, hK, hE⟩ := hv
  have hx := B.exec
  have hb := B.bytes
  have hr := B.returns
  have hts := atoms_spec (ws := w_Model_isTruth) B.pre
  have htt : ∀ w ∈ tw_T, w.before _ s = true := fun w h => hts w (List.mem_cons_of_mem _ h)
  have hown : s.vm.findClass R_Model = some m.cls := findClass_of_methodNamed B.named
  have hlocks := B.notSynchronized
  subst hsz
  generalize hAe : xN s.heap.size = A at hE ⊢
  have hA : ∀ q : Nat, s.heap.size ≤ q → A q := fun q h => by rw [← hAe]; exact Or.inr h
  have hS : va_S A s.heap s.heap [] := va_S.rf
  have hl := lv_entry ([.ref h, .long v1]) (n := 3) (Nat.le_of_ble_eq_true rfl)
  rw [lg_entry_eq]
  generalize (lg_sl ([.ref h, .long v1]) ++ List.replicate (3 - (lg_sl ([.ref h, .long v1])).length) Slot.unset).toArray = ls at hl ⊢
  have hl : lv_has ls 3 [(0, .ref h), (1, .long v1)] := hl
  rw [m_Model_isTruth] at hm
  refine lv_lload_n hx hb d_Model_isTruth_0 rfl (lv_at hl 1 rfl) ?_
  obtain ⟨r_2, h_1, hm⟩ := ob0_some hm
  have hFc := x_free0 hS hA
  refine va_calli (va_runS (As := [.long v1]) (rest := []) ⟨hx, hb, hml, hown, hts⟩ (x_Model_isWord l s.heap.size n h_1) (va_cwS 1 hts (tw_GS tw_cons cw_Model_isWord lk_Model_61 st_Model_isWord ini_Model) rfl rfl rfl hd_Model_isWord ⟨Nat.le_of_ble_eq_true rfl, Nat.le_of_ble_eq_true rfl⟩) xpS0 rfl rfl hl.1 rfl (lv_room (Nat.le_of_ble_eq_true rfl)) d_Model_isTruth_1 ⟨Nat.le_of_ble_eq_true rfl, Nat.le_of_ble_eq_true rfl⟩) hS (fun q _ h => hFc q h) hFc (fun r9 u9 t9 H locs ht hvm e9 hB hz1 hk1 hS => ?_)
  have e9 : r_2 = r9 := e9
  subst e9
  replace hP := x_keep hP hk1
  clear hFc hk1 hz1 hvm hB ht
  refine lv_if_eq (tgt := 39) hx hb d_Model_isTruth_4 (by decide) (fun c_3 => ?_) (fun c_3 => ?_)
  · replace hm := if_t c_3 hm
    refine lv_iconst (v := 0) hx hb d_Model_isTruth_39 (by decide) ?_
    have e3 := re1 hm
    exact W.zret hx hb hr (by decide) (fun t9 ht hW => ⟨⟨_, (), rfl, e3.symm, trivial⟩, hS.F ht⟩) hS.2.2 d_Model_isTruth_40
  · replace hm := if_f c_3 hm
    refine lv_aload_n hx hb d_Model_isTruth_7 rfl (lv_at hl 0 rfl) ?_
    refine lv_lload_n hx hb d_Model_isTruth_8 rfl (lv_at hl 1 rfl) ?_
    obtain ⟨r_5, h_4, hm⟩ := ob0_some hm
    have hFc := x_free0 hS hA
    refine va_calli (va_runS (As := [.long v1]) (rest := [.ref h]) ⟨hx, hb, hml, hown, hts⟩ (x_Model_what l H.size n h_4) (va_cwS 1 hts (tw_GS tw_cons cw_Model_what lk_Model_64 st_Model_what ini_Model) rfl rfl rfl hd_Model_what ⟨Nat.le_of_ble_eq_true rfl, Nat.le_of_ble_eq_true rfl⟩) xpS0 rfl rfl hl.1 rfl (lv_room (Nat.le_of_ble_eq_true rfl)) d_Model_isTruth_9 ⟨Nat.le_of_ble_eq_true rfl, Nat.le_of_ble_eq_true rfl⟩) hS (fun q _ h => hFc q h) hFc (fun r9 u9 t9 H locs ht hvm e9 hB hz1 hk1 hS => ?_)
    have e9 : r_5 = r9 := e9
    subst e9
    replace hP := x_keep hP hk1
    clear hFc hk1 hz1 hvm hB ht
    refine tw_ldcwS hx hb hown (show vk_R "TurtleWorldModel" 574 _ (adK 11) s from hE.ref 11 (by decide)) d_Model_isTruth_12 ?_
    obtain ⟨r_7, h_6, hm⟩ := ob0_some hm
    have hFc := x_free0 hS hA
    refine va_calli (va_runV (As := [.int r_5, .ref (adK 11)]) (rest := []) ⟨hx, hb, hml, hown, hts⟩ (x_Model_isText l dC dI cI cJ cB adK adV adA h v H.size n h_6) (cwV 2 hts (tw_GV tw_cons cw_Model_isText lk_Model_473 in_Model_isText sel_Model_isText ini_Model) rfl rfl rfl ⟨rfl, hd_Model_isText⟩ ⟨Nat.le_of_ble_eq_true rfl, Nat.le_of_ble_eq_true rfl⟩) (ypVr hK hP hS hE hFc yo_12 rfl) rfl rfl hl.1 rfl (lv_room (Nat.le_of_ble_eq_true rfl)) d_Model_isTruth_15 ⟨Nat.le_of_ble_eq_true rfl, Nat.le_of_ble_eq_true rfl⟩) hS (fun q _ h => hFc q h) hFc (fun r9 u9 t9 H locs ht hvm e9 hB hz1 hk1 hS => ?_)
    have e9 : r_7 = r9 := e9
    subst e9
    replace hP := x_keep hP hk1
    clear hFc hk1 hz1 hvm hB ht
    refine lv_if_ne (tgt := 35) hx hb d_Model_isTruth_18 (by decide) (fun c_8 => ?_) (fun c_8 => ?_)
    · replace hm := if_f c_8 hm
      refine lv_iconst (v := 1) hx hb d_Model_isTruth_35 (by decide) ?_
      refine lv_goto (tgt := 40) hx hb d_Model_isTruth_36 (by decide) ?_
      have e3 := re1 hm
      exact W.zret hx hb hr (by decide) (fun t9 ht hW => ⟨⟨_, (), rfl, e3.symm, trivial⟩, hS.F ht⟩) hS.2.2 d_Model_isTruth_40
    · replace hm := if_t c_8 hm
      refine lv_aload_n hx hb d_Model_isTruth_21 rfl (lv_at hl 0 rfl) ?_
      refine lv_lload_n hx hb d_Model_isTruth_22 rfl (lv_at hl 1 rfl) ?_
      obtain ⟨r_10, h_9, hm⟩ := ob0_some hm
      have hFc := x_free0 hS hA
      refine va_calli (va_runS (As := [.long v1]) (rest := [.ref h]) ⟨hx, hb, hml, hown, hts⟩ (x_Model_what l H.size n h_9) (va_cwS 1 hts (tw_GS tw_cons cw_Model_what lk_Model_64 st_Model_what ini_Model) rfl rfl rfl hd_Model_what ⟨Nat.le_of_ble_eq_true rfl, Nat.le_of_ble_eq_true rfl⟩) xpS0 rfl rfl hl.1 rfl (lv_room (Nat.le_of_ble_eq_true rfl)) d_Model_isTruth_23 ⟨Nat.le_of_ble_eq_true rfl, Nat.le_of_ble_eq_true rfl⟩) hS (fun q _ h => hFc q h) hFc (fun r9 u9 t9 H locs ht hvm e9 hB hz1 hk1 hS => ?_)
      have e9 : r_10 = r9 := e9
      subst e9
      replace hP := x_keep hP hk1
      clear hFc hk1 hz1 hvm hB ht
      refine tw_ldcwS hx hb hown (show vk_R "TurtleWorldModel" 582 _ (adK 12) s from hE.ref 12 (by decide)) d_Model_isTruth_26 ?_
      obtain ⟨r_12, h_11, hm⟩ := ob0_some hm
      have hFc := x_free0 hS hA
      refine va_calli (va_runV (As := [.int r_10, .ref (adK 12)]) (rest := []) ⟨hx, hb, hml, hown, hts⟩ (x_Model_isText l dC dI cI cJ cB adK adV adA h v H.size n h_11) (cwV 2 hts (tw_GV tw_cons cw_Model_isText lk_Model_473 in_Model_isText sel_Model_isText ini_Model) rfl rfl rfl ⟨rfl, hd_Model_isText⟩ ⟨Nat.le_of_ble_eq_true rfl, Nat.le_of_ble_eq_true rfl⟩) (ypVr hK hP hS hE hFc yo_12 rfl) rfl rfl hl.1 rfl (lv_room (Nat.le_of_ble_eq_true rfl)) d_Model_isTruth_29 ⟨Nat.le_of_ble_eq_true rfl, Nat.le_of_ble_eq_true rfl⟩) hS (fun q _ h => hFc q h) hFc (fun r9 u9 t9 H locs ht hvm e9 hB hz1 hk1 hS => ?_)
      have e9 : r_12 = r9 := e9
      subst e9
      replace hP := x_keep hP hk1
      clear hFc hk1 hz1 hvm hB ht
      refine lv_if_eq (tgt := 39) hx hb d_Model_isTruth_32 (by decide) (fun c_13 => ?_) (fun c_13 => ?_)
      · replace hm := if_t c_13 hm
        refine lv_iconst (v := 0) hx hb d_Model_isTruth_39 (by decide) ?_
        have e3 := re1 hm
        exact W.zret hx hb hr (by decide) (fun t9 ht hW => ⟨⟨_, (), rfl, e3.symm, trivial⟩, hS.F ht⟩) hS.2.2 d_Model_isTruth_40
      · replace hm := if_f c_13 hm
        refine lv_iconst (v := 1) hx hb d_Model_isTruth_35 (by decide) ?_
        refine lv_goto (tgt := 40) hx hb d_Model_isTruth_36 (by decide) ?_
        have e3 := re1 hm
        exact W.zret hx hb hr (by decide) (fun t9 ht hW => ⟨⟨_, (), rfl, e3.symm, trivial⟩, hS.F ht⟩) hS.2.2 d_Model_isTruth_40

def m_Model_draws_b383 (n : Nat) (rc_177 : (Nat → Int32) → (Nat → Int64) → (Nat → Nat → Int32) → (Nat → Nat → Int64) → Int32 → Int32 → Int32 → Int32 → Int32 → Int32 → Int32 → Int32 → Int32 → Int32 → Int32 → Int32 → Int32 → Option ((Nat → Int32) × (Nat → Int64) × (Nat → Nat → Int32) × (Nat → Nat → Int64) × Int32)) (i : Nat → Int32) (j : Nat → Int64) (a : Nat → Nat → Int32) (b : Nat → Nat → Int64) (v9 : Int32) (v10 : Int32) (v11 : Int32) (v13 : Int32) (v14 : Int32) (v15 : Int32) (v16 : Int32) (v17 : Int32) (v18 : Int32) (v19 : Int32) (v20 : Int32) (v22 : Int32) (v23 : Int32) : Option ((Nat → Int32) × (Nat → Int64) × (Nat → Nat → Int32) × (Nat → Nat → Int64) × Int32) := ob1 (v23 + 1 : Int32) (fun x_1 => rc_177 i j a b v9 v10 v11 v13 v14 v15 v16 v17 v18 v19 v20 v22 x_1)
set_option maxHeartbeats 4000000 in
set_option maxRecDepth 100000 in
theorem lb_Model_draws_383 (l : Launch) (dC : Nat → ClassId) (dI : Nat → Nat → Nat) (cI cJ cB : ClassId) (adK adV adA : Nat → Nat) (h : Nat) (v : Nat → Nat) (n : Nat) {p : Program} {e : Env} {s : State} {m : MethodId} {args : Array Value} {below : List Frame} {meth : Method} {c : Code} {A : Nat → Prop} (hx : p.tables.exec = Jvm.exec) (hb : c.code = b_Model_draws) (hml : c.maxLocals = 29) (hown : s.vm.findClass R_Model = some m.cls) (hts : ∀ w ∈ w_Model_draws, w.before args s = true) (hK : va_K (dC, dI) classes [(cI, .int), (cJ, .long), (cB, .byte)] s) (hE : tw_E adK adV adA A s s.heap) (hA : ∀ q : Nat, s.heap.size ≤ q → A q) (hr : meth.sig.returnType = none) (hlocks : meth.locks = false) {i2 : Nat → Int32} {j2 : Nat → Int64} {a2 : Nat → Nat → Int32} {b2 : Nat → Nat → Int64} {r2 : Int32} (rc_177 : (Nat → Int32) → (Nat → Int64) → (Nat → Nat → Int32) → (Nat → Nat → Int64) → Int32 → Int32 → Int32 → Int32 → Int32 → Int32 → Int32 → Int32 → Int32 → Int32 → Int32 → Int32 → Int32 → Option ((Nat → Int32) × (Nat → Int64) × (Nat → Nat → Int32) × (Nat → Nat → Int64) × Int32)) (Hrc_177 : ∀ (i : Nat → Int32) (j : Nat → Int64) (a : Nat → Nat → Int32) (b : Nat → Nat → Int64) (v9 : Int32) (v10 : Int32) (v11 : Int32) (v13 : Int32) (v14 : Int32) (v15 : Int32) (v16 : Int32) (v17 : Int32) (v18 : Int32) (v19 : Int32) (v20 : Int32) (v22 : Int32) (v23 : Int32), rc_177 i j a b v9 v10 v11 v13 v14 v15 v16 v17 v18 v19 v20 v22 v23 = some (i2, j2, a2, b2, r2) → ∀ (H : Heap) (locs : List Loc) (ls : Array Slot), va_P (dC, dI) classes (MW cI cJ cB h v i j a b) H → va_D A (MW cI cJ cB h v i j a b) → va_S A s.heap H locs → lv_has ls 29 [(0, .ref h), (9, .int v9), (10, .int v10), (11, .int v11), (13, .int v13), (14, .int v14), (15, .int v15), (16, .int v16), (17, .int v17), (18, .int v18), (19, .int v19), (20, .int v20), (22, .int v22), (23, .int v23)] → W p l e ({ frames := 2, cells := 0, slots := 0, locals := 54 } : Room) s m args below meth c H locs 0 0 (MQ below (va_Qv xV (yB dC dI cI cJ cB h v i2 j2 a2 b2 A) A) args s 0 0 A) (F0 m 177 ls [])) (i : Nat → Int32) (j : Nat → Int64) (a : Nat → Nat → Int32) (b : Nat → Nat → Int64) (v9 : Int32) (v10 : Int32) (v11 : Int32) (v13 : Int32) (v14 : Int32) (v15 : Int32) (v16 : Int32) (v17 : Int32) (v18 : Int32) (v19 : Int32) (v20 : Int32) (v22 : Int32) (v23 : Int32) (hm : m_Model_draws_b383 n rc_177 i j a b v9 v10 v11 v13 v14 v15 v16 v17 v18 v19 v20 v22 v23 = some (i2, j2, a2, b2, r2)) : ∀ (H : Heap) (locs : List Loc) (ls : Array Slot), va_P (dC, dI) classes (MW cI cJ cB h v i j a b) H → va_D A (MW cI cJ cB h v i j a b) → va_S A s.heap H locs → lv_has ls 29 [(0, .ref h), (9, .int v9), (10, .int v10), (11, .int v11), (13, .int v13), (14, .int v14), (15, .int v15), (16, .int v16), (17, .int v17), (18, .int v18), (19, .int v19), (20, .int v20), (22, .int v22), (23, .int v23)] → W p l e ({ frames := 2, cells := 0, slots := 0, locals := 54 } : Room) s m args below meth c H locs 0 0 (MQ below (va_Qv xV (yB dC dI cI cJ cB h v i2 j2 a2 b2 A) A) args s 0 0 A) (F0 m 383 ls []) := by
  have htt : ∀ w ∈ tw_T, w.before _ s = true := fun w h => hts w (List.mem_cons_of_mem _ h)
  intro H locs ls hP hD hS hl
  rw [m_Model_draws_b383] at hm
  obtain ⟨x_1, ex_1⟩ : ∃ y9 : Int32, y9 = v23 + 1 := ⟨_, rfl⟩
  replace hm := ob1_at ex_1 hm
  refine lv_iinc (v := x_1) (lv' := [(23, .int x_1), (0, .ref h), (9, .int v9), (10, .int v10), (11, .int v11), (13, .int v13), (14, .int v14), (15, .int v15), (16, .int v16), (17, .int v17), (18, .int v18), (19, .int v19), (20, .int v20), (22, .int v22)]) hx hb d_Model_draws_383 hl (k := 13) rfl (by rw [ex_1]; rfl) (by decide) rfl (fun ls hl => ?_)
  refine lv_goto (tgt := 177) hx hb d_Model_draws_386 (by decide) ?_
  exact Hrc_177 _ _ _ _ _ _ _ _ _ _ _ _ _ _ _ _ _ hm _ _ _ hP hD hS (lv_sub hl [1, 2, 3, 4, 5, 6, 7, 8, 9, 10, 11, 12, 13, 0] rfl)
def m_Model_draws_b380 (n : Nat) (rc_177 : (Nat → Int32) → (Nat → Int64) → (Nat → Nat → Int32) → (Nat → Nat → Int64) → Int32 → Int32 → Int32 → Int32 → Int32 → Int32 → Int32 → Int32 → Int32 → Int32 → Int32 → Int32 → Int32 → Option ((Nat → Int32) × (Nat → Int64) × (Nat → Nat → Int32) × (Nat → Nat → Int64) × Int32)) (i : Nat → Int32) (j : Nat → Int64) (a : Nat → Nat → Int32) (b : Nat → Nat → Int64) (v9 : Int32) (v10 : Int32) (v11 : Int32) (v13 : Int32) (v14 : Int32) (v15 : Int32) (v16 : Int32) (v17 : Int32) (v18 : Int32) (v19 : Int32) (v20 : Int32) (v22 : Int32) (v23 : Int32) (s0 : Int32) : Option ((Nat → Int32) × (Nat → Int64) × (Nat → Nat → Int32) × (Nat → Nat → Int64) × Int32) := ck s0 4096 (ob1 (sv a 44 s0.toNatClampNeg v10 : Nat → Nat → Int32) (fun a_2 => m_Model_draws_b383 n rc_177 i j a_2 b v9 v10 v11 v13 v14 v15 v16 v17 v18 v19 v20 v22 v23))
set_option maxHeartbeats 4000000 in
set_option maxRecDepth 100000 in
theorem lb_Model_draws_380 (l : Launch) (dC : Nat → ClassId) (dI : Nat → Nat → Nat) (cI cJ cB : ClassId) (adK adV adA : Nat → Nat) (h : Nat) (v : Nat → Nat) (n : Nat) {p : Program} {e : Env} {s : State} {m : MethodId} {args : Array Value} {below : List Frame} {meth : Method} {c : Code} {A : Nat → Prop} (hx : p.tables.exec = Jvm.exec) (hb : c.code = b_Model_draws) (hml : c.maxLocals = 29) (hown : s.vm.findClass R_Model = some m.cls) (hts : ∀ w ∈ w_Model_draws, w.before args s = true) (hK : va_K (dC, dI) classes [(cI, .int), (cJ, .long), (cB, .byte)] s) (hE : tw_E adK adV adA A s s.heap) (hA : ∀ q : Nat, s.heap.size ≤ q → A q) (hr : meth.sig.returnType = none) (hlocks : meth.locks = false) {i2 : Nat → Int32} {j2 : Nat → Int64} {a2 : Nat → Nat → Int32} {b2 : Nat → Nat → Int64} {r2 : Int32} (rc_177 : (Nat → Int32) → (Nat → Int64) → (Nat → Nat → Int32) → (Nat → Nat → Int64) → Int32 → Int32 → Int32 → Int32 → Int32 → Int32 → Int32 → Int32 → Int32 → Int32 → Int32 → Int32 → Int32 → Option ((Nat → Int32) × (Nat → Int64) × (Nat → Nat → Int32) × (Nat → Nat → Int64) × Int32)) (Hrc_177 : ∀ (i : Nat → Int32) (j : Nat → Int64) (a : Nat → Nat → Int32) (b : Nat → Nat → Int64) (v9 : Int32) (v10 : Int32) (v11 : Int32) (v13 : Int32) (v14 : Int32) (v15 : Int32) (v16 : Int32) (v17 : Int32) (v18 : Int32) (v19 : Int32) (v20 : Int32) (v22 : Int32) (v23 : Int32), rc_177 i j a b v9 v10 v11 v13 v14 v15 v16 v17 v18 v19 v20 v22 v23 = some (i2, j2, a2, b2, r2) → ∀ (H : Heap) (locs : List Loc) (ls : Array Slot), va_P (dC, dI) classes (MW cI cJ cB h v i j a b) H → va_D A (MW cI cJ cB h v i j a b) → va_S A s.heap H locs → lv_has ls 29 [(0, .ref h), (9, .int v9), (10, .int v10), (11, .int v11), (13, .int v13), (14, .int v14), (15, .int v15), (16, .int v16), (17, .int v17), (18, .int v18), (19, .int v19), (20, .int v20), (22, .int v22), (23, .int v23)] → W p l e ({ frames := 2, cells := 0, slots := 0, locals := 54 } : Room) s m args below meth c H locs 0 0 (MQ below (va_Qv xV (yB dC dI cI cJ cB h v i2 j2 a2 b2 A) A) args s 0 0 A) (F0 m 177 ls [])) (i : Nat → Int32) (j : Nat → Int64) (a : Nat → Nat → Int32) (b : Nat → Nat → Int64) (v9 : Int32) (v10 : Int32) (v11 : Int32) (v13 : Int32) (v14 : Int32) (v15 : Int32) (v16 : Int32) (v17 : Int32) (v18 : Int32) (v19 : Int32) (v20 : Int32) (v22 : Int32) (v23 : Int32) (s0 : Int32) (hm : m_Model_draws_b380 n rc_177 i j a b v9 v10 v11 v13 v14 v15 v16 v17 v18 v19 v20 v22 v23 s0 = some (i2, j2, a2, b2, r2)) : ∀ (H : Heap) (locs : List Loc) (ls : Array Slot), va_P (dC, dI) classes (MW cI cJ cB h v i j a b) H → va_D A (MW cI cJ cB h v i j a b) → va_S A s.heap H locs → lv_has ls 29 [(0, .ref h), (9, .int v9), (10, .int v10), (11, .int v11), (13, .int v13), (14, .int v14), (15, .int v15), (16, .int v16), (17, .int v17), (18, .int v18), (19, .int v19), (20, .int v20), (22, .int v22), (23, .int v23)] → W p l e ({ frames := 2, cells := 0, slots := 0, locals := 54 } : Room) s m args below meth c H locs 0 0 (MQ below (va_Qv xV (yB dC dI cI cJ cB h v i2 j2 a2 b2 A) A) args s 0 0 A) (F0 m 380 ls [.int s0, .ref ((v 44))]) := by
  have htt : ∀ w ∈ tw_T, w.before _ s = true := fun w h => hts w (List.mem_cons_of_mem _ h)
  intro H locs ls hP hD hS hl
  rw [m_Model_draws_b380] at hm
  refine lv_iload hx hb d_Model_draws_380 (lv_at hl 2 rfl) ?_
  obtain ⟨h_1, hm⟩ := ck_some hm
  refine va_iast hx hb hK hP hD hS 36 0 ya_44 rfl h_1 d_Model_draws_382 (fun H locs hP hD hS => ?_)
  obtain ⟨a_2, ea_2⟩ : ∃ y9 : Nat → Nat → Int32, y9 = sv a 44 s0.toNatClampNeg v10 := ⟨_, rfl⟩
  replace hm := ob1_at ea_2 hm
  obtain ⟨hP, hD⟩ := yv_44 ea_2 hP hD
  exact lb_Model_draws_383 l dC dI cI cJ cB adK adV adA h v n hx hb hml hown hts hK hE hA hr hlocks rc_177 Hrc_177 _ _ _ _ _ _ _ _ _ _ _ _ _ _ _ _ _ hm _ _ _ hP hD hS (lv_sub hl [0, 1, 2, 3, 4, 5, 6, 7, 8, 9, 10, 11, 12, 13] rfl)
def m_Model_draws_b326 (n : Nat) (rc_177 : (Nat → Int32) → (Nat → Int64) → (Nat → Nat → Int32) → (Nat → Nat → Int64) → Int32 → Int32 → Int32 → Int32 → Int32 → Int32 → Int32 → Int32 → Int32 → Int32 → Int32 → Int32 → Int32 → Option ((Nat → Int32) × (Nat → Int64) × (Nat → Nat → Int32) × (Nat → Nat → Int64) × Int32)) (i : Nat → Int32) (j : Nat → Int64) (a : Nat → Nat → Int32) (b : Nat → Nat → Int64) (v9 : Int32) (v10 : Int32) (v11 : Int32) (v13 : Int32) (v14 : Int32) (v15 : Int32) (v16 : Int32) (v17 : Int32) (v18 : Int32) (v19 : Int32) (v20 : Int32) (v22 : Int32) (v23 : Int32) (v24 : Int32) : Option ((Nat → Int32) × (Nat → Int64) × (Nat → Nat → Int32) × (Nat → Nat → Int64) × Int32) := if v24 < ((-32 : Int32)) then m_Model_draws_b383 n rc_177 i j a b v9 v10 v11 v13 v14 v15 v16 v17 v18 v19 v20 v22 v23 else if ((31 : Int32)) < v24 then m_Model_draws_b383 n rc_177 i j a b v9 v10 v11 v13 v14 v15 v16 v17 v18 v19 v20 v22 v23 else if v11 = ((0 : Int32)) then m_Model_draws_b380 n rc_177 i j a b v9 v10 v11 v13 v14 v15 v16 v17 v18 v19 v20 v22 v23 (((64 * (v24 + 32)) + v23) + 32) else m_Model_draws_b380 n rc_177 i j a b v9 v10 v11 v13 v14 v15 v16 v17 v18 v19 v20 v22 v23 (((64 * (v23 + 32)) + v24) + 32)
set_option maxHeartbeats 4000000 in
set_option maxRecDepth 100000 in
theorem lb_Model_draws_326 (l : Launch) (dC : Nat → ClassId) (dI : Nat → Nat → Nat) (cI cJ cB : ClassId) (adK adV adA : Nat → Nat) (h : Nat) (v : Nat → Nat) (n : Nat) {p : Program} {e : Env} {s : State} {m : MethodId} {args : Array Value} {below : List Frame} {meth : Method} {c : Code} {A : Nat → Prop} (hx : p.tables.exec = Jvm.exec) (hb : c.code = b_Model_draws) (hml : c.maxLocals = 29) (hown : s.vm.findClass R_Model = some m.cls) (hts : ∀ w ∈ w_Model_draws, w.before args s = true) (hK : va_K (dC, dI) classes [(cI, .int), (cJ, .long), (cB, .byte)] s) (hE : tw_E adK adV adA A s s.heap) (hA : ∀ q : Nat, s.heap.size ≤ q → A q) (hr : meth.sig.returnType = none) (hlocks : meth.locks = false) {i2 : Nat → Int32} {j2 : Nat → Int64} {a2 : Nat → Nat → Int32} {b2 : Nat → Nat → Int64} {r2 : Int32} (rc_177 : (Nat → Int32) → (Nat → Int64) → (Nat → Nat → Int32) → (Nat → Nat → Int64) → Int32 → Int32 → Int32 → Int32 → Int32 → Int32 → Int32 → Int32 → Int32 → Int32 → Int32 → Int32 → Int32 → Option ((Nat → Int32) × (Nat → Int64) × (Nat → Nat → Int32) × (Nat → Nat → Int64) × Int32)) (Hrc_177 : ∀ (i : Nat → Int32) (j : Nat → Int64) (a : Nat → Nat → Int32) (b : Nat → Nat → Int64) (v9 : Int32) (v10 : Int32) (v11 : Int32) (v13 : Int32) (v14 : Int32) (v15 : Int32) (v16 : Int32) (v17 : Int32) (v18 : Int32) (v19 : Int32) (v20 : Int32) (v22 : Int32) (v23 : Int32), rc_177 i j a b v9 v10 v11 v13 v14 v15 v16 v17 v18 v19 v20 v22 v23 = some (i2, j2, a2, b2, r2) → ∀ (H : Heap) (locs : List Loc) (ls : Array Slot), va_P (dC, dI) classes (MW cI cJ cB h v i j a b) H → va_D A (MW cI cJ cB h v i j a b) → va_S A s.heap H locs → lv_has ls 29 [(0, .ref h), (9, .int v9), (10, .int v10), (11, .int v11), (13, .int v13), (14, .int v14), (15, .int v15), (16, .int v16), (17, .int v17), (18, .int v18), (19, .int v19), (20, .int v20), (22, .int v22), (23, .int v23)] → W p l e ({ frames := 2, cells := 0, slots := 0, locals := 54 } : Room) s m args below meth c H locs 0 0 (MQ below (va_Qv xV (yB dC dI cI cJ cB h v i2 j2 a2 b2 A) A) args s 0 0 A) (F0 m 177 ls [])) (i : Nat → Int32) (j : Nat → Int64) (a : Nat → Nat → Int32) (b : Nat → Nat → Int64) (v9 : Int32) (v10 : Int32) (v11 : Int32) (v13 : Int32) (v14 : Int32) (v15 : Int32) (v16 : Int32) (v17 : Int32) (v18 : Int32) (v19 : Int32) (v20 : Int32) (v22 : Int32) (v23 : Int32) (v24 : Int32) (hm : m_Model_draws_b326 n rc_177 i j a b v9 v10 v11 v13 v14 v15 v16 v17 v18 v19 v20 v22 v23 v24 = some (i2, j2, a2, b2, r2)) : ∀ (H : Heap) (locs : List Loc) (ls : Array Slot), va_P (dC, dI) classes (MW cI cJ cB h v i j a b) H → va_D A (MW cI cJ cB h v i j a b) → va_S A s.heap H locs → lv_has ls 29 [(0, .ref h), (9, .int v9), (10, .int v10), (11, .int v11), (13, .int v13), (14, .int v14), (15, .int v15), (16, .int v16), (17, .int v17), (18, .int v18), (19, .int v19), (20, .int v20), (22, .int v22), (23, .int v23), (24, .int v24)] → W p l e ({ frames := 2, cells := 0, slots := 0, locals := 54 } : Room) s m args below meth c H locs 0 0 (MQ below (va_Qv xV (yB dC dI cI cJ cB h v i2 j2 a2 b2 A) A) args s 0 0 A) (F0 m 326 ls []) := by
  have htt : ∀ w ∈ tw_T, w.before _ s = true := fun w h => hts w (List.mem_cons_of_mem _ h)
  intro H locs ls hP hD hS hl
  rw [m_Model_draws_b326] at hm
  refine lv_iload hx hb d_Model_draws_326 (lv_at hl 14 rfl) ?_
  refine lv_bipush (v := -32) hx hb d_Model_draws_328 (by decide) ?_
  refine lv_icmp_lt (tgt := 383) hx hb d_Model_draws_330 (by decide) (fun c_1 => ?_) (fun c_1 => ?_)
  · replace hm := if_t c_1 hm
    exact lb_Model_draws_383 l dC dI cI cJ cB adK adV adA h v n hx hb hml hown hts hK hE hA hr hlocks rc_177 Hrc_177 _ _ _ _ _ _ _ _ _ _ _ _ _ _ _ _ _ hm _ _ _ hP hD hS (lv_sub hl [0, 1, 2, 3, 4, 5, 6, 7, 8, 9, 10, 11, 12, 13] rfl)
  · replace hm := if_f c_1 hm
    refine lv_iload hx hb d_Model_draws_333 (lv_at hl 14 rfl) ?_
    refine lv_bipush (v := 31) hx hb d_Model_draws_335 (by decide) ?_
    refine lv_icmp_gt (tgt := 383) hx hb d_Model_draws_337 (by decide) (fun c_2 => ?_) (fun c_2 => ?_)
    · replace hm := if_t c_2 hm
      exact lb_Model_draws_383 l dC dI cI cJ cB adK adV adA h v n hx hb hml hown hts hK hE hA hr hlocks rc_177 Hrc_177 _ _ _ _ _ _ _ _ _ _ _ _ _ _ _ _ _ hm _ _ _ hP hD hS (lv_sub hl [0, 1, 2, 3, 4, 5, 6, 7, 8, 9, 10, 11, 12, 13] rfl)
    · replace hm := if_f c_2 hm
      refine lv_aload_n hx hb d_Model_draws_340 rfl (lv_at hl 0 rfl) ?_
      refine va_get (D := (dC, dI)) (ci := 12) (v := .ref ((v 44))) (C := R_Model) (T := F_Model) (N := 127) hx hb htt iw_Model hown hK hP 0 yo_12 rfl 44 (Nat.le_of_ble_eq_true rfl) (htt _ lk_Model_222) (fun _ h9 => h9) yg_44 d_Model_draws_341 ?_
      refine lv_iload hx hb d_Model_draws_344 (lv_at hl 3 rfl) ?_
      refine lv_if_eq (tgt := 366) hx hb d_Model_draws_346 (by decide) (fun c_3 => ?_) (fun c_3 => ?_)
      · replace hm := if_t c_3 hm
        refine lv_bipush (v := 64) hx hb d_Model_draws_366 (by decide) ?_
        refine lv_iload hx hb d_Model_draws_368 (lv_at hl 14 rfl) ?_
        refine lv_bipush (v := 32) hx hb d_Model_draws_370 (by decide) ?_
        refine lv_iadd hx hb d_Model_draws_372 ?_
        refine lv_imul hx hb d_Model_draws_373 ?_
        refine lv_iload hx hb d_Model_draws_374 (lv_at hl 13 rfl) ?_
        refine lv_iadd hx hb d_Model_draws_376 ?_
        refine lv_bipush (v := 32) hx hb d_Model_draws_377 (by decide) ?_
        refine lv_iadd hx hb d_Model_draws_379 ?_
        exact lb_Model_draws_380 l dC dI cI cJ cB adK adV adA h v n hx hb hml hown hts hK hE hA hr hlocks rc_177 Hrc_177 _ _ _ _ _ _ _ _ _ _ _ _ _ _ _ _ _ _ hm _ _ _ hP hD hS (lv_sub hl [0, 1, 2, 3, 4, 5, 6, 7, 8, 9, 10, 11, 12, 13] rfl)
      · replace hm := if_f c_3 hm
        refine lv_bipush (v := 64) hx hb d_Model_draws_349 (by decide) ?_
        refine lv_iload hx hb d_Model_draws_351 (lv_at hl 13 rfl) ?_
        refine lv_bipush (v := 32) hx hb d_Model_draws_353 (by decide) ?_
        refine lv_iadd hx hb d_Model_draws_355 ?_
        refine lv_imul hx hb d_Model_draws_356 ?_
        refine lv_iload hx hb d_Model_draws_357 (lv_at hl 14 rfl) ?_
        refine lv_iadd hx hb d_Model_draws_359 ?_
        refine lv_bipush (v := 32) hx hb d_Model_draws_360 (by decide) ?_
        refine lv_iadd hx hb d_Model_draws_362 ?_
        refine lv_goto (tgt := 380) hx hb d_Model_draws_363 (by decide) ?_
        exact lb_Model_draws_380 l dC dI cI cJ cB adK adV adA h v n hx hb hml hown hts hK hE hA hr hlocks rc_177 Hrc_177 _ _ _ _ _ _ _ _ _ _ _ _ _ _ _ _ _ _ hm _ _ _ hP hD hS (lv_sub hl [0, 1, 2, 3, 4, 5, 6, 7, 8, 9, 10, 11, 12, 13] rfl)
def m_Model_draws_b177 (n : Nat) : Nat → (Nat → Int32) → (Nat → Int64) → (Nat → Nat → Int32) → (Nat → Nat → Int64) → Int32 → Int32 → Int32 → Int32 → Int32 → Int32 → Int32 → Int32 → Int32 → Int32 → Int32 → Int32 → Int32 → Option ((Nat → Int32) × (Nat → Int64) × (Nat → Nat → Int32) × (Nat → Nat → Int64) × Int32)
  | 0, _, _, _, _, _, _, _, _, _, _, _, _, _, _, _, _, _ => none
  | f + 1, i, j, a, b, v9, v10, v11, v13, v14, v15, v16, v17, v18, v19, v20, v22, v23 => if v22 < v23 then some (i, j, a, b, (0 : Int32)) else ob0 (m_Model_sign n ((2 * v23.toInt64) - v13.toInt64) ((-v14).toInt64)) (fun r_3 => if ((0 : Int32)) ≤ r_3 then ob0 (m_Model_sign n ((2 * v23.toInt64) - v17.toInt64) ((-v18).toInt64)) (fun r_6 => if r_6 ≤ ((0 : Int32)) then ob1 ((3 * v15.toInt64) - ((3 * v9.toInt64) * v14.toInt64) : Int64) (fun x_8 => ob1 ((3 * v16.toInt64) + (v9.toInt64 * ((2 * v23.toInt64) - v13.toInt64)) : Int64) (fun x_9 => ob0 (m_Model_floor n (x_8 + 3) x_9 (6 : Int64)) (fun r_11 => m_Model_draws_b326 n (m_Model_draws_b177 n f) i j a b v9 v10 v11 v13 v14 v15 v16 v17 v18 v19 v20 v22 v23 r_11))) else ob0 (m_Model_floor n ((v19 + 1).toInt64) v20.toInt64 (2 : Int64)) (fun r_13 => m_Model_draws_b326 n (m_Model_draws_b177 n f) i j a b v9 v10 v11 v13 v14 v15 v16 v17 v18 v19 v20 v22 v23 r_13)) else ob0 (m_Model_floor n ((v15 + 1).toInt64) v16.toInt64 (2 : Int64)) (fun r_15 => m_Model_draws_b326 n (m_Model_draws_b177 n f) i j a b v9 v10 v11 v13 v14 v15 v16 v17 v18 v19 v20 v22 v23 r_15))
set_option maxHeartbeats 4000000 in
set_option maxRecDepth 100000 in
theorem lb_Model_draws_177 (l : Launch) (dC : Nat → ClassId) (dI : Nat → Nat → Nat) (cI cJ cB : ClassId) (adK adV adA : Nat → Nat) (h : Nat) (v : Nat → Nat) (n : Nat) {p : Program} {e : Env} {s : State} {m : MethodId} {args : Array Value} {below : List Frame} {meth : Method} {c : Code} {A : Nat → Prop} (hx : p.tables.exec = Jvm.exec) (hb : c.code = b_Model_draws) (hml : c.maxLocals = 29) (hown : s.vm.findClass R_Model = some m.cls) (hts : ∀ w ∈ w_Model_draws, w.before args s = true) (hK : va_K (dC, dI) classes [(cI, .int), (cJ, .long), (cB, .byte)] s) (hE : tw_E adK adV adA A s s.heap) (hA : ∀ q : Nat, s.heap.size ≤ q → A q) (hr : meth.sig.returnType = none) (hlocks : meth.locks = false) {i2 : Nat → Int32} {j2 : Nat → Int64} {a2 : Nat → Nat → Int32} {b2 : Nat → Nat → Int64} {r2 : Int32} : ∀ (f : Nat) (i : Nat → Int32) (j : Nat → Int64) (a : Nat → Nat → Int32) (b : Nat → Nat → Int64) (v9 : Int32) (v10 : Int32) (v11 : Int32) (v13 : Int32) (v14 : Int32) (v15 : Int32) (v16 : Int32) (v17 : Int32) (v18 : Int32) (v19 : Int32) (v20 : Int32) (v22 : Int32) (v23 : Int32), m_Model_draws_b177 n f i j a b v9 v10 v11 v13 v14 v15 v16 v17 v18 v19 v20 v22 v23 = some (i2, j2, a2, b2, r2) → ∀ (H : Heap) (locs : List Loc) (ls : Array Slot), va_P (dC, dI) classes (MW cI cJ cB h v i j a b) H → va_D A (MW cI cJ cB h v i j a b) → va_S A s.heap H locs → lv_has ls 29 [(0, .ref h), (9, .int v9), (10, .int v10), (11, .int v11), (13, .int v13), (14, .int v14), (15, .int v15), (16, .int v16), (17, .int v17), (18, .int v18), (19, .int v19), (20, .int v20), (22, .int v22), (23, .int v23)] → W p l e ({ frames := 2, cells := 0, slots := 0, locals := 54 } : Room) s m args below meth c H locs 0 0 (MQ below (va_Qv xV (yB dC dI cI cJ cB h v i2 j2 a2 b2 A) A) args s 0 0 A) (F0 m 177 ls []) := by
  have htt : ∀ w ∈ tw_T, w.before _ s = true := fun w h => hts w (List.mem_cons_of_mem _ h)
  intro f
  induction f with
  | zero =>
    intro i j a b v9 v10 v11 v13 v14 v15 v16 v17 v18 v19 v20 v22 v23 hm
    rw [m_Model_draws_b177] at hm
    cases hm
  | succ f ih =>
    intro i j a b v9 v10 v11 v13 v14 v15 v16 v17 v18 v19 v20 v22 v23 hm H locs ls hP hD hS hl
    rw [m_Model_draws_b177] at hm
    refine lv_iload hx hb d_Model_draws_177 (lv_at hl 13 rfl) ?_
    refine lv_iload hx hb d_Model_draws_179 (lv_at hl 12 rfl) ?_
    refine lv_icmp_gt (tgt := 389) hx hb d_Model_draws_181 (by decide) (fun c_1 => ?_) (fun c_1 => ?_)
    · replace hm := if_t c_1 hm
      obtain ⟨e1i, e1j, e1a, e1b, e3⟩ := re4m hm
      obtain ⟨hP, hD⟩ := y_eq e1i e1j e1a e1b hP hD
      exact W.vret hx hb hr (fun t9 ht hW => ⟨⟨(), rfl, trivial, by rw [ht]; exact hP, hD⟩, hS.F ht⟩) hS.2.2 d_Model_draws_389
    · replace hm := if_f c_1 hm
      refine lv_ldc2 (v := 2) hx hb hown (htt _ lk_Model_9) d_Model_draws_184 ?_
      refine lv_iload hx hb d_Model_draws_187 (lv_at hl 13 rfl) ?_
      refine lv_i2l hx hb d_Model_draws_189 rfl ?_
      refine lv_lmul hx hb d_Model_draws_190 ?_
      refine lv_iload hx hb d_Model_draws_191 (lv_at hl 4 rfl) ?_
      refine lv_i2l hx hb d_Model_draws_193 rfl ?_
      refine lv_lsub hx hb d_Model_draws_194 ?_
      refine lv_iload hx hb d_Model_draws_195 (lv_at hl 5 rfl) ?_
      refine lv_ineg hx hb d_Model_draws_197 ?_
      refine lv_i2l hx hb d_Model_draws_198 rfl ?_
      obtain ⟨r_3, h_2, hm⟩ := ob0_some hm
      have hFc := x_free0 hS hA
      refine va_calli (va_runS (As := [.long ((2 * v23.toInt64) - v13.toInt64), .long ((-v14).toInt64)]) (rest := []) ⟨hx, hb, hml, hown, hts⟩ (x_Model_sign l H.size n h_2) (va_cwS 2 hts (tw_GS tw_cons cw_Model_sign lk_Model_842 st_Model_sign ini_Model) rfl rfl rfl hd_Model_sign ⟨Nat.le_of_ble_eq_true rfl, Nat.le_of_ble_eq_true rfl⟩) xpS0 rfl rfl hl.1 rfl (lv_room (Nat.le_of_ble_eq_true rfl)) d_Model_draws_199 ⟨Nat.le_of_ble_eq_true rfl, Nat.le_of_ble_eq_true rfl⟩) hS (fun q _ h => hFc q h) hFc (fun r9 u9 t9 H locs ht hvm e9 hB hz1 hk1 hS => ?_)
      have e9 : r_3 = r9 := e9
      subst e9
      replace hP := x_keep hP hk1
      clear hFc hk1 hz1 hvm hB ht
      refine lv_if_ge (tgt := 224) hx hb d_Model_draws_202 (by decide) (fun c_4 => ?_) (fun c_4 => ?_)
      · replace hm := if_t c_4 hm
        refine lv_ldc2 (v := 2) hx hb hown (htt _ lk_Model_9) d_Model_draws_224 ?_
        refine lv_iload hx hb d_Model_draws_227 (lv_at hl 13 rfl) ?_
        refine lv_i2l hx hb d_Model_draws_229 rfl ?_
        refine lv_lmul hx hb d_Model_draws_230 ?_
        refine lv_iload hx hb d_Model_draws_231 (lv_at hl 8 rfl) ?_
        refine lv_i2l hx hb d_Model_draws_233 rfl ?_
        refine lv_lsub hx hb d_Model_draws_234 ?_
        refine lv_iload hx hb d_Model_draws_235 (lv_at hl 9 rfl) ?_
        refine lv_ineg hx hb d_Model_draws_237 ?_
        refine lv_i2l hx hb d_Model_draws_238 rfl ?_
        obtain ⟨r_6, h_5, hm⟩ := ob0_some hm
        have hFc := x_free0 hS hA
        refine va_calli (va_runS (As := [.long ((2 * v23.toInt64) - v17.toInt64), .long ((-v18).toInt64)]) (rest := []) ⟨hx, hb, hml, hown, hts⟩ (x_Model_sign l H.size n h_5) (va_cwS 2 hts (tw_GS tw_cons cw_Model_sign lk_Model_842 st_Model_sign ini_Model) rfl rfl rfl hd_Model_sign ⟨Nat.le_of_ble_eq_true rfl, Nat.le_of_ble_eq_true rfl⟩) xpS0 rfl rfl hl.1 rfl (lv_room (Nat.le_of_ble_eq_true rfl)) d_Model_draws_239 ⟨Nat.le_of_ble_eq_true rfl, Nat.le_of_ble_eq_true rfl⟩) hS (fun q _ h => hFc q h) hFc (fun r9 u9 t9 H locs ht hvm e9 hB hz1 hk1 hS => ?_)
        have e9 : r_6 = r9 := e9
        subst e9
        replace hP := x_keep hP hk1
        clear hFc hk1 hz1 hvm hB ht
        refine lv_if_le (tgt := 264) hx hb d_Model_draws_242 (by decide) (fun c_7 => ?_) (fun c_7 => ?_)
        · replace hm := if_t c_7 hm
          refine lv_ldc2 (v := 3) hx hb hown (htt _ lk_Model_7) d_Model_draws_264 ?_
          refine lv_iload hx hb d_Model_draws_267 (lv_at hl 6 rfl) ?_
          refine lv_i2l hx hb d_Model_draws_269 rfl ?_
          refine lv_lmul hx hb d_Model_draws_270 ?_
          refine lv_ldc2 (v := 3) hx hb hown (htt _ lk_Model_7) d_Model_draws_271 ?_
          refine lv_iload hx hb d_Model_draws_274 (lv_at hl 1 rfl) ?_
          refine lv_i2l hx hb d_Model_draws_276 rfl ?_
          refine lv_lmul hx hb d_Model_draws_277 ?_
          refine lv_iload hx hb d_Model_draws_278 (lv_at hl 5 rfl) ?_
          refine lv_i2l hx hb d_Model_draws_280 rfl ?_
          refine lv_lmul hx hb d_Model_draws_281 ?_
          refine lv_lsub hx hb d_Model_draws_282 ?_
          refine lv_topl (fun x_8 ex_8 => ?_)
          replace hm := ob1_at ex_8 hm
          refine lv_lstore (lv' := [(25, .long x_8), (0, .ref h), (9, .int v9), (10, .int v10), (11, .int v11), (13, .int v13), (14, .int v14), (15, .int v15), (16, .int v16), (17, .int v17), (18, .int v18), (19, .int v19), (20, .int v20), (22, .int v22), (23, .int v23)]) hx hb d_Model_draws_283 hl (by decide) rfl (fun ls hl => ?_)
          refine lv_ldc2 (v := 3) hx hb hown (htt _ lk_Model_7) d_Model_draws_285 ?_
          refine lv_iload hx hb d_Model_draws_288 (lv_at hl 8 rfl) ?_
          refine lv_i2l hx hb d_Model_draws_290 rfl ?_
          refine lv_lmul hx hb d_Model_draws_291 ?_
          refine lv_iload hx hb d_Model_draws_292 (lv_at hl 2 rfl) ?_
          refine lv_i2l hx hb d_Model_draws_294 rfl ?_
          refine lv_ldc2 (v := 2) hx hb hown (htt _ lk_Model_9) d_Model_draws_295 ?_
          refine lv_iload hx hb d_Model_draws_298 (lv_at hl 14 rfl) ?_
          refine lv_i2l hx hb d_Model_draws_300 rfl ?_
          refine lv_lmul hx hb d_Model_draws_301 ?_
          refine lv_iload hx hb d_Model_draws_302 (lv_at hl 5 rfl) ?_
          refine lv_i2l hx hb d_Model_draws_304 rfl ?_
          refine lv_lsub hx hb d_Model_draws_305 ?_
          refine lv_lmul hx hb d_Model_draws_306 ?_
          refine lv_ladd hx hb d_Model_draws_307 ?_
          refine lv_topl (fun x_9 ex_9 => ?_)
          replace hm := ob1_at ex_9 hm
          refine lv_lstore (lv' := [(27, .long x_9), (25, .long x_8), (0, .ref h), (9, .int v9), (10, .int v10), (11, .int v11), (13, .int v13), (14, .int v14), (15, .int v15), (16, .int v16), (17, .int v17), (18, .int v18), (19, .int v19), (20, .int v20), (22, .int v22), (23, .int v23)]) hx hb d_Model_draws_308 hl (by decide) rfl (fun ls hl => ?_)
          refine lv_lload hx hb d_Model_draws_310 (lv_at hl 1 rfl) ?_
          refine lv_ldc2 (v := 3) hx hb hown (htt _ lk_Model_7) d_Model_draws_312 ?_
          refine lv_ladd hx hb d_Model_draws_315 ?_
          refine lv_lload hx hb d_Model_draws_316 (lv_at hl 0 rfl) ?_
          refine lv_ldc2 (v := 6) hx hb hown (htt _ lk_Model_847) d_Model_draws_318 ?_
          obtain ⟨r_11, h_10, hm⟩ := ob0_some hm
          have hFc := x_free0 hS hA
          refine va_calli (va_runS (As := [.long (x_8 + 3), .long x_9, .long 6]) (rest := []) ⟨hx, hb, hml, hown, hts⟩ (x_Model_floor l H.size n h_10) (va_cwS 3 hts (tw_GS tw_cons cw_Model_floor lk_Model_823 st_Model_floor ini_Model) rfl rfl rfl hd_Model_floor ⟨Nat.le_of_ble_eq_true rfl, Nat.le_of_ble_eq_true rfl⟩) xpS0 rfl rfl hl.1 rfl (lv_room (Nat.le_of_ble_eq_true rfl)) d_Model_draws_321 ⟨Nat.le_of_ble_eq_true rfl, Nat.le_of_ble_eq_true rfl⟩) hS (fun q _ h => hFc q h) hFc (fun r9 u9 t9 H locs ht hvm e9 hB hz1 hk1 hS => ?_)
          have e9 : r_11 = r9 := e9
          subst e9
          replace hP := x_keep hP hk1
          clear hFc hk1 hz1 hvm hB ht
          refine lv_istore (lv' := [(24, .int r_11), (27, .long x_9), (25, .long x_8), (0, .ref h), (9, .int v9), (10, .int v10), (11, .int v11), (13, .int v13), (14, .int v14), (15, .int v15), (16, .int v16), (17, .int v17), (18, .int v18), (19, .int v19), (20, .int v20), (22, .int v22), (23, .int v23)]) hx hb d_Model_draws_324 hl (by decide) rfl (fun ls hl => ?_)
          exact lb_Model_draws_326 l dC dI cI cJ cB adK adV adA h v n hx hb hml hown hts hK hE hA hr hlocks (m_Model_draws_b177 n f) ih _ _ _ _ _ _ _ _ _ _ _ _ _ _ _ _ _ _ hm _ _ _ hP hD hS (lv_sub hl [3, 4, 5, 6, 7, 8, 9, 10, 11, 12, 13, 14, 15, 16, 0] rfl)
        · replace hm := if_f c_7 hm
          refine lv_iload hx hb d_Model_draws_245 (lv_at hl 10 rfl) ?_
          refine lv_iconst (v := 1) hx hb d_Model_draws_247 (by decide) ?_
          refine lv_iadd hx hb d_Model_draws_248 ?_
          refine lv_i2l hx hb d_Model_draws_249 rfl ?_
          refine lv_iload hx hb d_Model_draws_250 (lv_at hl 11 rfl) ?_
          refine lv_i2l hx hb d_Model_draws_252 rfl ?_
          refine lv_ldc2 (v := 2) hx hb hown (htt _ lk_Model_9) d_Model_draws_253 ?_
          obtain ⟨r_13, h_12, hm⟩ := ob0_some hm
          have hFc := x_free0 hS hA
          refine va_calli (va_runS (As := [.long ((v19 + 1).toInt64), .long v20.toInt64, .long 2]) (rest := []) ⟨hx, hb, hml, hown, hts⟩ (x_Model_floor l H.size n h_12) (va_cwS 3 hts (tw_GS tw_cons cw_Model_floor lk_Model_823 st_Model_floor ini_Model) rfl rfl rfl hd_Model_floor ⟨Nat.le_of_ble_eq_true rfl, Nat.le_of_ble_eq_true rfl⟩) xpS0 rfl rfl hl.1 rfl (lv_room (Nat.le_of_ble_eq_true rfl)) d_Model_draws_256 ⟨Nat.le_of_ble_eq_true rfl, Nat.le_of_ble_eq_true rfl⟩) hS (fun q _ h => hFc q h) hFc (fun r9 u9 t9 H locs ht hvm e9 hB hz1 hk1 hS => ?_)
          have e9 : r_13 = r9 := e9
          subst e9
          replace hP := x_keep hP hk1
          clear hFc hk1 hz1 hvm hB ht
          refine lv_istore (lv' := [(24, .int r_13), (0, .ref h), (9, .int v9), (10, .int v10), (11, .int v11), (13, .int v13), (14, .int v14), (15, .int v15), (16, .int v16), (17, .int v17), (18, .int v18), (19, .int v19), (20, .int v20), (22, .int v22), (23, .int v23)]) hx hb d_Model_draws_259 hl (by decide) rfl (fun ls hl => ?_)
          refine lv_goto (tgt := 326) hx hb d_Model_draws_261 (by decide) ?_
          exact lb_Model_draws_326 l dC dI cI cJ cB adK adV adA h v n hx hb hml hown hts hK hE hA hr hlocks (m_Model_draws_b177 n f) ih _ _ _ _ _ _ _ _ _ _ _ _ _ _ _ _ _ _ hm _ _ _ hP hD hS (lv_sub hl [1, 2, 3, 4, 5, 6, 7, 8, 9, 10, 11, 12, 13, 14, 0] rfl)
      · replace hm := if_f c_4 hm
        refine lv_iload hx hb d_Model_draws_205 (lv_at hl 6 rfl) ?_
        refine lv_iconst (v := 1) hx hb d_Model_draws_207 (by decide) ?_
        refine lv_iadd hx hb d_Model_draws_208 ?_
        refine lv_i2l hx hb d_Model_draws_209 rfl ?_
        refine lv_iload hx hb d_Model_draws_210 (lv_at hl 7 rfl) ?_
        refine lv_i2l hx hb d_Model_draws_212 rfl ?_
        refine lv_ldc2 (v := 2) hx hb hown (htt _ lk_Model_9) d_Model_draws_213 ?_
        obtain ⟨r_15, h_14, hm⟩ := ob0_some hm
        have hFc := x_free0 hS hA
        refine va_calli (va_runS (As := [.long ((v15 + 1).toInt64), .long v16.toInt64, .long 2]) (rest := []) ⟨hx, hb, hml, hown, hts⟩ (x_Model_floor l H.size n h_14) (va_cwS 3 hts (tw_GS tw_cons cw_Model_floor lk_Model_823 st_Model_floor ini_Model) rfl rfl rfl hd_Model_floor ⟨Nat.le_of_ble_eq_true rfl, Nat.le_of_ble_eq_true rfl⟩) xpS0 rfl rfl hl.1 rfl (lv_room (Nat.le_of_ble_eq_true rfl)) d_Model_draws_216 ⟨Nat.le_of_ble_eq_true rfl, Nat.le_of_ble_eq_true rfl⟩) hS (fun q _ h => hFc q h) hFc (fun r9 u9 t9 H locs ht hvm e9 hB hz1 hk1 hS => ?_)
        have e9 : r_15 = r9 := e9
        subst e9
        replace hP := x_keep hP hk1
        clear hFc hk1 hz1 hvm hB ht
        refine lv_istore (lv' := [(24, .int r_15), (0, .ref h), (9, .int v9), (10, .int v10), (11, .int v11), (13, .int v13), (14, .int v14), (15, .int v15), (16, .int v16), (17, .int v17), (18, .int v18), (19, .int v19), (20, .int v20), (22, .int v22), (23, .int v23)]) hx hb d_Model_draws_219 hl (by decide) rfl (fun ls hl => ?_)
        refine lv_goto (tgt := 326) hx hb d_Model_draws_221 (by decide) ?_
        exact lb_Model_draws_326 l dC dI cI cJ cB adK adV adA h v n hx hb hml hown hts hK hE hA hr hlocks (m_Model_draws_b177 n f) ih _ _ _ _ _ _ _ _ _ _ _ _ _ _ _ _ _ _ hm _ _ _ hP hD hS (lv_sub hl [1, 2, 3, 4, 5, 6, 7, 8, 9, 10, 11, 12, 13, 14, 0] rfl)
def m_Model_draws_b129 (n : Nat) (i : Nat → Int32) (j : Nat → Int64) (a : Nat → Nat → Int32) (b : Nat → Nat → Int64) (v9 : Int32) (v10 : Int32) (v11 : Int32) (v13 : Int32) (v14 : Int32) (v15 : Int32) (v16 : Int32) (v17 : Int32) (v18 : Int32) (v19 : Int32) (s0 : Int32) : Option ((Nat → Int32) × (Nat → Int64) × (Nat → Nat → Int32) × (Nat → Nat → Int64) × Int32) := ob0 (m_Model_floor n ((v13 + 1).toInt64) v14.toInt64 (2 : Int64)) (fun r_2 => ob0 (m_Math_max n (-32 : Int32) r_2) (fun r_4 => ob0 (m_Model_floor n ((v17 + 1).toInt64) v18.toInt64 (2 : Int64)) (fun r_6 => ob0 (m_Math_min n (31 : Int32) r_6) (fun r_8 => m_Model_draws_b177 n n i j a b v9 v10 v11 v13 v14 v15 v16 v17 v18 v19 s0 r_8 r_4))))
set_option maxHeartbeats 4000000 in
set_option maxRecDepth 100000 in
theorem lb_Model_draws_129 (l : Launch) (dC : Nat → ClassId) (dI : Nat → Nat → Nat) (cI cJ cB : ClassId) (adK adV adA : Nat → Nat) (h : Nat) (v : Nat → Nat) (n : Nat) {p : Program} {e : Env} {s : State} {m : MethodId} {args : Array Value} {below : List Frame} {meth : Method} {c : Code} {A : Nat → Prop} (hx : p.tables.exec = Jvm.exec) (hb : c.code = b_Model_draws) (hml : c.maxLocals = 29) (hown : s.vm.findClass R_Model = some m.cls) (hts : ∀ w ∈ w_Model_draws, w.before args s = true) (hK : va_K (dC, dI) classes [(cI, .int), (cJ, .long), (cB, .byte)] s) (hE : tw_E adK adV adA A s s.heap) (hA : ∀ q : Nat, s.heap.size ≤ q → A q) (hr : meth.sig.returnType = none) (hlocks : meth.locks = false) {i2 : Nat → Int32} {j2 : Nat → Int64} {a2 : Nat → Nat → Int32} {b2 : Nat → Nat → Int64} {r2 : Int32} (i : Nat → Int32) (j : Nat → Int64) (a : Nat → Nat → Int32) (b : Nat → Nat → Int64) (v9 : Int32) (v10 : Int32) (v11 : Int32) (v13 : Int32) (v14 : Int32) (v15 : Int32) (v16 : Int32) (v17 : Int32) (v18 : Int32) (v19 : Int32) (s0 : Int32) (hm : m_Model_draws_b129 n i j a b v9 v10 v11 v13 v14 v15 v16 v17 v18 v19 s0 = some (i2, j2, a2, b2, r2)) : ∀ (H : Heap) (locs : List Loc) (ls : Array Slot), va_P (dC, dI) classes (MW cI cJ cB h v i j a b) H → va_D A (MW cI cJ cB h v i j a b) → va_S A s.heap H locs → lv_has ls 29 [(0, .ref h), (9, .int v9), (10, .int v10), (11, .int v11), (13, .int v13), (14, .int v14), (15, .int v15), (16, .int v16), (17, .int v17), (18, .int v18), (19, .int v19)] → W p l e ({ frames := 2, cells := 0, slots := 0, locals := 54 } : Room) s m args below meth c H locs 0 0 (MQ below (va_Qv xV (yB dC dI cI cJ cB h v i2 j2 a2 b2 A) A) args s 0 0 A) (F0 m 129 ls [.int s0]) := by
  have htt : ∀ w ∈ tw_T, w.before _ s = true := fun w h => hts w (List.mem_cons_of_mem _ h)
  intro H locs ls hP hD hS hl
  rw [m_Model_draws_b129] at hm
  refine lv_istore (lv' := [(20, .int s0), (0, .ref h), (9, .int v9), (10, .int v10), (11, .int v11), (13, .int v13), (14, .int v14), (15, .int v15), (16, .int v16), (17, .int v17), (18, .int v18), (19, .int v19)]) hx hb d_Model_draws_129 hl (by decide) rfl (fun ls hl => ?_)
  refine lv_bipush (v := -32) hx hb d_Model_draws_131 (by decide) ?_
  refine lv_iload hx hb d_Model_draws_133 (lv_at hl 5 rfl) ?_
  refine lv_iconst (v := 1) hx hb d_Model_draws_135 (by decide) ?_
  refine lv_iadd hx hb d_Model_draws_136 ?_
  refine lv_i2l hx hb d_Model_draws_137 rfl ?_
  refine lv_iload hx hb d_Model_draws_138 (lv_at hl 6 rfl) ?_
  refine lv_i2l hx hb d_Model_draws_140 rfl ?_
  refine lv_ldc2 (v := 2) hx hb hown (htt _ lk_Model_9) d_Model_draws_141 ?_
  obtain ⟨r_2, h_1, hm⟩ := ob0_some hm
  have hFc := x_free0 hS hA
  refine va_calli (va_runS (As := [.long ((v13 + 1).toInt64), .long v14.toInt64, .long 2]) (rest := [.int ((-32))]) ⟨hx, hb, hml, hown, hts⟩ (x_Model_floor l H.size n h_1) (va_cwS 3 hts (tw_GS tw_cons cw_Model_floor lk_Model_823 st_Model_floor ini_Model) rfl rfl rfl hd_Model_floor ⟨Nat.le_of_ble_eq_true rfl, Nat.le_of_ble_eq_true rfl⟩) xpS0 rfl rfl hl.1 rfl (lv_room (Nat.le_of_ble_eq_true rfl)) d_Model_draws_144 ⟨Nat.le_of_ble_eq_true rfl, Nat.le_of_ble_eq_true rfl⟩) hS (fun q _ h => hFc q h) hFc (fun r9 u9 t9 H locs ht hvm e9 hB hz1 hk1 hS => ?_)
  have e9 : r_2 = r9 := e9
  subst e9
  replace hP := x_keep hP hk1
  clear hFc hk1 hz1 hvm hB ht
  obtain ⟨r_4, h_3, hm⟩ := ob0_some hm
  have hFc := x_free0 hS hA
  refine va_calli (va_runS (As := [.int ((-32)), .int r_2]) (rest := []) ⟨hx, hb, hml, hown, hts⟩ (x_Math_max l H.size n h_3) (va_cwS 2 hts (tw_GS tw_cons cw_Math_max lk_Model_830 st_Math_max ini_Math) rfl rfl rfl hd_Math_max ⟨Nat.le_of_ble_eq_true rfl, Nat.le_of_ble_eq_true rfl⟩) xpS0 rfl rfl hl.1 rfl (lv_room (Nat.le_of_ble_eq_true rfl)) d_Model_draws_147 ⟨Nat.le_of_ble_eq_true rfl, Nat.le_of_ble_eq_true rfl⟩) hS (fun q _ h => hFc q h) hFc (fun r9 u9 t9 H locs ht hvm e9 hB hz1 hk1 hS => ?_)
  have e9 : r_4 = r9 := e9
  subst e9
  replace hP := x_keep hP hk1
  clear hFc hk1 hz1 hvm hB ht
  refine lv_istore (lv' := [(21, .int r_4), (20, .int s0), (0, .ref h), (9, .int v9), (10, .int v10), (11, .int v11), (13, .int v13), (14, .int v14), (15, .int v15), (16, .int v16), (17, .int v17), (18, .int v18), (19, .int v19)]) hx hb d_Model_draws_150 hl (by decide) rfl (fun ls hl => ?_)
  refine lv_bipush (v := 31) hx hb d_Model_draws_152 (by decide) ?_
  refine lv_iload hx hb d_Model_draws_154 (lv_at hl 10 rfl) ?_
  refine lv_iconst (v := 1) hx hb d_Model_draws_156 (by decide) ?_
  refine lv_iadd hx hb d_Model_draws_157 ?_
  refine lv_i2l hx hb d_Model_draws_158 rfl ?_
  refine lv_iload hx hb d_Model_draws_159 (lv_at hl 11 rfl) ?_
  refine lv_i2l hx hb d_Model_draws_161 rfl ?_
  refine lv_ldc2 (v := 2) hx hb hown (htt _ lk_Model_9) d_Model_draws_162 ?_
  obtain ⟨r_6, h_5, hm⟩ := ob0_some hm
  have hFc := x_free0 hS hA
  refine va_calli (va_runS (As := [.long ((v17 + 1).toInt64), .long v18.toInt64, .long 2]) (rest := [.int 31]) ⟨hx, hb, hml, hown, hts⟩ (x_Model_floor l H.size n h_5) (va_cwS 3 hts (tw_GS tw_cons cw_Model_floor lk_Model_823 st_Model_floor ini_Model) rfl rfl rfl hd_Model_floor ⟨Nat.le_of_ble_eq_true rfl, Nat.le_of_ble_eq_true rfl⟩) xpS0 rfl rfl hl.1 rfl (lv_room (Nat.le_of_ble_eq_true rfl)) d_Model_draws_165 ⟨Nat.le_of_ble_eq_true rfl, Nat.le_of_ble_eq_true rfl⟩) hS (fun q _ h => hFc q h) hFc (fun r9 u9 t9 H locs ht hvm e9 hB hz1 hk1 hS => ?_)
  have e9 : r_6 = r9 := e9
  subst e9
  replace hP := x_keep hP hk1
  clear hFc hk1 hz1 hvm hB ht
  obtain ⟨r_8, h_7, hm⟩ := ob0_some hm
  have hFc := x_free0 hS hA
  refine va_calli (va_runS (As := [.int 31, .int r_6]) (rest := []) ⟨hx, hb, hml, hown, hts⟩ (x_Math_min l H.size n h_7) (va_cwS 2 hts (tw_GS tw_cons cw_Math_min lk_Model_845 st_Math_min ini_Math) rfl rfl rfl hd_Math_min ⟨Nat.le_of_ble_eq_true rfl, Nat.le_of_ble_eq_true rfl⟩) xpS0 rfl rfl hl.1 rfl (lv_room (Nat.le_of_ble_eq_true rfl)) d_Model_draws_168 ⟨Nat.le_of_ble_eq_true rfl, Nat.le_of_ble_eq_true rfl⟩) hS (fun q _ h => hFc q h) hFc (fun r9 u9 t9 H locs ht hvm e9 hB hz1 hk1 hS => ?_)
  have e9 : r_8 = r9 := e9
  subst e9
  replace hP := x_keep hP hk1
  clear hFc hk1 hz1 hvm hB ht
  refine lv_istore (lv' := [(22, .int r_8), (21, .int r_4), (20, .int s0), (0, .ref h), (9, .int v9), (10, .int v10), (11, .int v11), (13, .int v13), (14, .int v14), (15, .int v15), (16, .int v16), (17, .int v17), (18, .int v18), (19, .int v19)]) hx hb d_Model_draws_171 hl (by decide) rfl (fun ls hl => ?_)
  refine lv_iload hx hb d_Model_draws_173 (lv_at hl 1 rfl) ?_
  refine lv_istore (lv' := [(23, .int r_4), (22, .int r_8), (21, .int r_4), (20, .int s0), (0, .ref h), (9, .int v9), (10, .int v10), (11, .int v11), (13, .int v13), (14, .int v14), (15, .int v15), (16, .int v16), (17, .int v17), (18, .int v18), (19, .int v19)]) hx hb d_Model_draws_175 hl (by decide) rfl (fun ls hl => ?_)
  exact lb_Model_draws_177 l dC dI cI cJ cB adK adV adA h v n hx hb hml hown hts hK hE hA hr hlocks n _ _ _ _ _ _ _ _ _ _ _ _ _ _ _ _ _ hm _ _ _ hP hD hS (lv_sub hl [4, 5, 6, 7, 8, 9, 10, 11, 12, 13, 14, 3, 1, 0] rfl)
def m_Model_draws_b115 (n : Nat) (i : Nat → Int32) (j : Nat → Int64) (a : Nat → Nat → Int32) (b : Nat → Nat → Int64) (v4 : Int32) (v8 : Int32) (v9 : Int32) (v10 : Int32) (v11 : Int32) (v12 : Int32) (v13 : Int32) (v14 : Int32) (v15 : Int32) (v16 : Int32) (v17 : Int32) (v18 : Int32) (s0 : Int32) : Option ((Nat → Int32) × (Nat → Int64) × (Nat → Nat → Int32) × (Nat → Nat → Int64) × Int32) := if v12 = ((0 : Int32)) then m_Model_draws_b129 n i j a b v9 v10 v11 v13 v14 v15 v16 v17 v18 s0 v4 else m_Model_draws_b129 n i j a b v9 v10 v11 v13 v14 v15 v16 v17 v18 s0 v8
set_option maxHeartbeats 4000000 in
set_option maxRecDepth 100000 in
theorem lb_Model_draws_115 (l : Launch) (dC : Nat → ClassId) (dI : Nat → Nat → Nat) (cI cJ cB : ClassId) (adK adV adA : Nat → Nat) (h : Nat) (v : Nat → Nat) (n : Nat) {p : Program} {e : Env} {s : State} {m : MethodId} {args : Array Value} {below : List Frame} {meth : Method} {c : Code} {A : Nat → Prop} (hx : p.tables.exec = Jvm.exec) (hb : c.code = b_Model_draws) (hml : c.maxLocals = 29) (hown : s.vm.findClass R_Model = some m.cls) (hts : ∀ w ∈ w_Model_draws, w.before args s = true) (hK : va_K (dC, dI) classes [(cI, .int), (cJ, .long), (cB, .byte)] s) (hE : tw_E adK adV adA A s s.heap) (hA : ∀ q : Nat, s.heap.size ≤ q → A q) (hr : meth.sig.returnType = none) (hlocks : meth.locks = false) {i2 : Nat → Int32} {j2 : Nat → Int64} {a2 : Nat → Nat → Int32} {b2 : Nat → Nat → Int64} {r2 : Int32} (i : Nat → Int32) (j : Nat → Int64) (a : Nat → Nat → Int32) (b : Nat → Nat → Int64) (v4 : Int32) (v8 : Int32) (v9 : Int32) (v10 : Int32) (v11 : Int32) (v12 : Int32) (v13 : Int32) (v14 : Int32) (v15 : Int32) (v16 : Int32) (v17 : Int32) (v18 : Int32) (s0 : Int32) (hm : m_Model_draws_b115 n i j a b v4 v8 v9 v10 v11 v12 v13 v14 v15 v16 v17 v18 s0 = some (i2, j2, a2, b2, r2)) : ∀ (H : Heap) (locs : List Loc) (ls : Array Slot), va_P (dC, dI) classes (MW cI cJ cB h v i j a b) H → va_D A (MW cI cJ cB h v i j a b) → va_S A s.heap H locs → lv_has ls 29 [(0, .ref h), (4, .int v4), (8, .int v8), (9, .int v9), (10, .int v10), (11, .int v11), (12, .int v12), (13, .int v13), (14, .int v14), (15, .int v15), (16, .int v16), (17, .int v17), (18, .int v18)] → W p l e ({ frames := 2, cells := 0, slots := 0, locals := 54 } : Room) s m args below meth c H locs 0 0 (MQ below (va_Qv xV (yB dC dI cI cJ cB h v i2 j2 a2 b2 A) A) args s 0 0 A) (F0 m 115 ls [.int s0]) := by
  have htt : ∀ w ∈ tw_T, w.before _ s = true := fun w h => hts w (List.mem_cons_of_mem _ h)
  intro H locs ls hP hD hS hl
  rw [m_Model_draws_b115] at hm
  refine lv_istore (lv' := [(19, .int s0), (0, .ref h), (4, .int v4), (8, .int v8), (9, .int v9), (10, .int v10), (11, .int v11), (12, .int v12), (13, .int v13), (14, .int v14), (15, .int v15), (16, .int v16), (17, .int v17), (18, .int v18)]) hx hb d_Model_draws_115 hl (by decide) rfl (fun ls hl => ?_)
  refine lv_iload hx hb d_Model_draws_117 (lv_at hl 7 rfl) ?_
  refine lv_if_eq (tgt := 127) hx hb d_Model_draws_119 (by decide) (fun c_1 => ?_) (fun c_1 => ?_)
  · replace hm := if_t c_1 hm
    refine lv_iload hx hb d_Model_draws_127 (lv_at hl 2 rfl) ?_
    exact lb_Model_draws_129 l dC dI cI cJ cB adK adV adA h v n hx hb hml hown hts hK hE hA hr hlocks _ _ _ _ _ _ _ _ _ _ _ _ _ _ _ hm _ _ _ hP hD hS (lv_sub hl [1, 4, 5, 6, 8, 9, 10, 11, 12, 13, 0] rfl)
  · replace hm := if_f c_1 hm
    refine lv_iload hx hb d_Model_draws_122 (lv_at hl 3 rfl) ?_
    refine lv_goto (tgt := 129) hx hb d_Model_draws_124 (by decide) ?_
    exact lb_Model_draws_129 l dC dI cI cJ cB adK adV adA h v n hx hb hml hown hts hK hE hA hr hlocks _ _ _ _ _ _ _ _ _ _ _ _ _ _ _ hm _ _ _ hP hD hS (lv_sub hl [1, 4, 5, 6, 8, 9, 10, 11, 12, 13, 0] rfl)
def m_Model_draws_b102 (n : Nat) (i : Nat → Int32) (j : Nat → Int64) (a : Nat → Nat → Int32) (b : Nat → Nat → Int64) (v3 : Int32) (v4 : Int32) (v7 : Int32) (v8 : Int32) (v9 : Int32) (v10 : Int32) (v11 : Int32) (v12 : Int32) (v13 : Int32) (v14 : Int32) (v15 : Int32) (v16 : Int32) (v17 : Int32) (s0 : Int32) : Option ((Nat → Int32) × (Nat → Int64) × (Nat → Nat → Int32) × (Nat → Nat → Int64) × Int32) := if v12 = ((0 : Int32)) then m_Model_draws_b115 n i j a b v4 v8 v9 v10 v11 v12 v13 v14 v15 v16 v17 s0 v3 else m_Model_draws_b115 n i j a b v4 v8 v9 v10 v11 v12 v13 v14 v15 v16 v17 s0 v7
set_option maxHeartbeats 4000000 in
set_option maxRecDepth 100000 in
theorem lb_Model_draws_102 (l : Launch) (dC : Nat → ClassId) (dI : Nat → Nat → Nat) (cI cJ cB : ClassId) (adK adV adA : Nat → Nat) (h : Nat) (v : Nat → Nat) (n : Nat) {p : Program} {e : Env} {s : State} {m : MethodId} {args : Array Value} {below : List Frame} {meth : Method} {c : Code} {A : Nat → Prop} (hx : p.tables.exec = Jvm.exec) (hb : c.code = b_Model_draws) (hml : c.maxLocals = 29) (hown : s.vm.findClass R_Model = some m.cls) (hts : ∀ w ∈ w_Model_draws, w.before args s = true) (hK : va_K (dC, dI) classes [(cI, .int), (cJ, .long), (cB, .byte)] s) (hE : tw_E adK adV adA A s s.heap) (hA : ∀ q : Nat, s.heap.size ≤ q → A q) (hr : meth.sig.returnType = none) (hlocks : meth.locks = false) {i2 : Nat → Int32} {j2 : Nat → Int64} {a2 : Nat → Nat → Int32} {b2 : Nat → Nat → Int64} {r2 : Int32} (i : Nat → Int32) (j : Nat → Int64) (a : Nat → Nat → Int32) (b : Nat → Nat → Int64) (v3 : Int32) (v4 : Int32) (v7 : Int32) (v8 : Int32) (v9 : Int32) (v10 : Int32) (v11 : Int32) (v12 : Int32) (v13 : Int32) (v14 : Int32) (v15 : Int32) (v16 : Int32) (v17 : Int32) (s0 : Int32) (hm : m_Model_draws_b102 n i j a b v3 v4 v7 v8 v9 v10 v11 v12 v13 v14 v15 v16 v17 s0 = some (i2, j2, a2, b2, r2)) : ∀ (H : Heap) (locs : List Loc) (ls : Array Slot), va_P (dC, dI) classes (MW cI cJ cB h v i j a b) H → va_D A (MW cI cJ cB h v i j a b) → va_S A s.heap H locs → lv_has ls 29 [(0, .ref h), (3, .int v3), (4, .int v4), (7, .int v7), (8, .int v8), (9, .int v9), (10, .int v10), (11, .int v11), (12, .int v12), (13, .int v13), (14, .int v14), (15, .int v15), (16, .int v16), (17, .int v17)] → W p l e ({ frames := 2, cells := 0, slots := 0, locals := 54 } : Room) s m args below meth c H locs 0 0 (MQ below (va_Qv xV (yB dC dI cI cJ cB h v i2 j2 a2 b2 A) A) args s 0 0 A) (F0 m 102 ls [.int s0]) := by
  have htt : ∀ w ∈ tw_T, w.before _ s = true := fun w h => hts w (List.mem_cons_of_mem _ h)
  intro H locs ls hP hD hS hl
  rw [m_Model_draws_b102] at hm
  refine lv_istore (lv' := [(18, .int s0), (0, .ref h), (3, .int v3), (4, .int v4), (7, .int v7), (8, .int v8), (9, .int v9), (10, .int v10), (11, .int v11), (12, .int v12), (13, .int v13), (14, .int v14), (15, .int v15), (16, .int v16), (17, .int v17)]) hx hb d_Model_draws_102 hl (by decide) rfl (fun ls hl => ?_)
  refine lv_iload hx hb d_Model_draws_104 (lv_at hl 9 rfl) ?_
  refine lv_if_eq (tgt := 114) hx hb d_Model_draws_106 (by decide) (fun c_1 => ?_) (fun c_1 => ?_)
  · replace hm := if_t c_1 hm
    refine lv_iload_n hx hb d_Model_draws_114 rfl (lv_at hl 2 rfl) ?_
    exact lb_Model_draws_115 l dC dI cI cJ cB adK adV adA h v n hx hb hml hown hts hK hE hA hr hlocks _ _ _ _ _ _ _ _ _ _ _ _ _ _ _ _ _ hm _ _ _ hP hD hS (lv_sub hl [1, 3, 5, 6, 7, 8, 9, 10, 11, 12, 13, 14, 0] rfl)
  · replace hm := if_f c_1 hm
    refine lv_iload hx hb d_Model_draws_109 (lv_at hl 4 rfl) ?_
    refine lv_goto (tgt := 115) hx hb d_Model_draws_111 (by decide) ?_
    exact lb_Model_draws_115 l dC dI cI cJ cB adK adV adA h v n hx hb hml hown hts hK hE hA hr hlocks _ _ _ _ _ _ _ _ _ _ _ _ _ _ _ _ _ hm _ _ _ hP hD hS (lv_sub hl [1, 3, 5, 6, 7, 8, 9, 10, 11, 12, 13, 14, 0] rfl)
def m_Model_draws_b89 (n : Nat) (i : Nat → Int32) (j : Nat → Int64) (a : Nat → Nat → Int32) (b : Nat → Nat → Int64) (v2 : Int32) (v3 : Int32) (v4 : Int32) (v6 : Int32) (v7 : Int32) (v8 : Int32) (v9 : Int32) (v10 : Int32) (v11 : Int32) (v12 : Int32) (v13 : Int32) (v14 : Int32) (v15 : Int32) (v16 : Int32) (s0 : Int32) : Option ((Nat → Int32) × (Nat → Int64) × (Nat → Nat → Int32) × (Nat → Nat → Int64) × Int32) := if v12 = ((0 : Int32)) then m_Model_draws_b102 n i j a b v3 v4 v7 v8 v9 v10 v11 v12 v13 v14 v15 v16 s0 v2 else m_Model_draws_b102 n i j a b v3 v4 v7 v8 v9 v10 v11 v12 v13 v14 v15 v16 s0 v6
set_option maxHeartbeats 4000000 in
set_option maxRecDepth 100000 in
theorem lb_Model_draws_89 (l : Launch) (dC : Nat → ClassId) (dI : Nat → Nat → Nat) (cI cJ cB : ClassId) (adK adV adA : Nat → Nat) (h : Nat) (v : Nat → Nat) (n : Nat) {p : Program} {e : Env} {s : State} {m : MethodId} {args : Array Value} {below : List Frame} {meth : Method} {c : Code} {A : Nat → Prop} (hx : p.tables.exec = Jvm.exec) (hb : c.code = b_Model_draws) (hml : c.maxLocals = 29) (hown : s.vm.findClass R_Model = some m.cls) (hts : ∀ w ∈ w_Model_draws, w.before args s = true) (hK : va_K (dC, dI) classes [(cI, .int), (cJ, .long), (cB, .byte)] s) (hE : tw_E adK adV adA A s s.heap) (hA : ∀ q : Nat, s.heap.size ≤ q → A q) (hr : meth.sig.returnType = none) (hlocks : meth.locks = false) {i2 : Nat → Int32} {j2 : Nat → Int64} {a2 : Nat → Nat → Int32} {b2 : Nat → Nat → Int64} {r2 : Int32} (i : Nat → Int32) (j : Nat → Int64) (a : Nat → Nat → Int32) (b : Nat → Nat → Int64) (v2 : Int32) (v3 : Int32) (v4 : Int32) (v6 : Int32) (v7 : Int32) (v8 : Int32) (v9 : Int32) (v10 : Int32) (v11 : Int32) (v12 : Int32) (v13 : Int32) (v14 : Int32) (v15 : Int32) (v16 : Int32) (s0 : Int32) (hm : m_Model_draws_b89 n i j a b v2 v3 v4 v6 v7 v8 v9 v10 v11 v12 v13 v14 v15 v16 s0 = some (i2, j2, a2, b2, r2)) : ∀ (H : Heap) (locs : List Loc) (ls : Array Slot), va_P (dC, dI) classes (MW cI cJ cB h v i j a b) H → va_D A (MW cI cJ cB h v i j a b) → va_S A s.heap H locs → lv_has ls 29 [(0, .ref h), (2, .int v2), (3, .int v3), (4, .int v4), (6, .int v6), (7, .int v7), (8, .int v8), (9, .int v9), (10, .int v10), (11, .int v11), (12, .int v12), (13, .int v13), (14, .int v14), (15, .int v15), (16, .int v16)] → W p l e ({ frames := 2, cells := 0, slots := 0, locals := 54 } : Room) s m args below meth c H locs 0 0 (MQ below (va_Qv xV (yB dC dI cI cJ cB h v i2 j2 a2 b2 A) A) args s 0 0 A) (F0 m 89 ls [.int s0]) := by
  have htt : ∀ w ∈ tw_T, w.before _ s = true := fun w h => hts w (List.mem_cons_of_mem _ h)
  intro H locs ls hP hD hS hl
  rw [m_Model_draws_b89] at hm
  refine lv_istore (lv' := [(17, .int s0), (0, .ref h), (2, .int v2), (3, .int v3), (4, .int v4), (6, .int v6), (7, .int v7), (8, .int v8), (9, .int v9), (10, .int v10), (11, .int v11), (12, .int v12), (13, .int v13), (14, .int v14), (15, .int v15), (16, .int v16)]) hx hb d_Model_draws_89 hl (by decide) rfl (fun ls hl => ?_)
  refine lv_iload hx hb d_Model_draws_91 (lv_at hl 11 rfl) ?_
  refine lv_if_eq (tgt := 101) hx hb d_Model_draws_93 (by decide) (fun c_1 => ?_) (fun c_1 => ?_)
  · replace hm := if_t c_1 hm
    refine lv_iload_n hx hb d_Model_draws_101 rfl (lv_at hl 2 rfl) ?_
    exact lb_Model_draws_102 l dC dI cI cJ cB adK adV adA h v n hx hb hml hown hts hK hE hA hr hlocks _ _ _ _ _ _ _ _ _ _ _ _ _ _ _ _ _ _ hm _ _ _ hP hD hS (lv_sub hl [1, 3, 4, 6, 7, 8, 9, 10, 11, 12, 13, 14, 15, 0] rfl)
  · replace hm := if_f c_1 hm
    refine lv_iload hx hb d_Model_draws_96 (lv_at hl 5 rfl) ?_
    refine lv_goto (tgt := 102) hx hb d_Model_draws_98 (by decide) ?_
    exact lb_Model_draws_102 l dC dI cI cJ cB adK adV adA h v n hx hb hml hown hts hK hE hA hr hlocks _ _ _ _ _ _ _ _ _ _ _ _ _ _ _ _ _ _ hm _ _ _ hP hD hS (lv_sub hl [1, 3, 4, 6, 7, 8, 9, 10, 11, 12, 13, 14, 15, 0] rfl)
def m_Model_draws_b76 (n : Nat) (i : Nat → Int32) (j : Nat → Int64) (a : Nat → Nat → Int32) (b : Nat → Nat → Int64) (v1 : Int32) (v2 : Int32) (v3 : Int32) (v4 : Int32) (v5 : Int32) (v6 : Int32) (v7 : Int32) (v8 : Int32) (v9 : Int32) (v10 : Int32) (v11 : Int32) (v12 : Int32) (v13 : Int32) (v14 : Int32) (v15 : Int32) (s0 : Int32) : Option ((Nat → Int32) × (Nat → Int64) × (Nat → Nat → Int32) × (Nat → Nat → Int64) × Int32) := if v12 = ((0 : Int32)) then m_Model_draws_b89 n i j a b v2 v3 v4 v6 v7 v8 v9 v10 v11 v12 v13 v14 v15 s0 v1 else m_Model_draws_b89 n i j a b v2 v3 v4 v6 v7 v8 v9 v10 v11 v12 v13 v14 v15 s0 v5
set_option maxHeartbeats 4000000 in
set_option maxRecDepth 100000 in
theorem lb_Model_draws_76 (l : Launch) (dC : Nat → ClassId) (dI : Nat → Nat → Nat) (cI cJ cB : ClassId) (adK adV adA : Nat → Nat) (h : Nat) (v : Nat → Nat) (n : Nat) {p : Program} {e : Env} {s : State} {m : MethodId} {args : Array Value} {below : List Frame} {meth : Method} {c : Code} {A : Nat → Prop} (hx : p.tables.exec = Jvm.exec) (hb : c.code = b_Model_draws) (hml : c.maxLocals = 29) (hown : s.vm.findClass R_Model = some m.cls) (hts : ∀ w ∈ w_Model_draws, w.before args s = true) (hK : va_K (dC, dI) classes [(cI, .int), (cJ, .long), (cB, .byte)] s) (hE : tw_E adK adV adA A s s.heap) (hA : ∀ q : Nat, s.heap.size ≤ q → A q) (hr : meth.sig.returnType = none) (hlocks : meth.locks = false) {i2 : Nat → Int32} {j2 : Nat → Int64} {a2 : Nat → Nat → Int32} {b2 : Nat → Nat → Int64} {r2 : Int32} (i : Nat → Int32) (j : Nat → Int64) (a : Nat → Nat → Int32) (b : Nat → Nat → Int64) (v1 : Int32) (v2 : Int32) (v3 : Int32) (v4 : Int32) (v5 : Int32) (v6 : Int32) (v7 : Int32) (v8 : Int32) (v9 : Int32) (v10 : Int32) (v11 : Int32) (v12 : Int32) (v13 : Int32) (v14 : Int32) (v15 : Int32) (s0 : Int32) (hm : m_Model_draws_b76 n i j a b v1 v2 v3 v4 v5 v6 v7 v8 v9 v10 v11 v12 v13 v14 v15 s0 = some (i2, j2, a2, b2, r2)) : ∀ (H : Heap) (locs : List Loc) (ls : Array Slot), va_P (dC, dI) classes (MW cI cJ cB h v i j a b) H → va_D A (MW cI cJ cB h v i j a b) → va_S A s.heap H locs → lv_has ls 29 [(0, .ref h), (1, .int v1), (2, .int v2), (3, .int v3), (4, .int v4), (5, .int v5), (6, .int v6), (7, .int v7), (8, .int v8), (9, .int v9), (10, .int v10), (11, .int v11), (12, .int v12), (13, .int v13), (14, .int v14), (15, .int v15)] → W p l e ({ frames := 2, cells := 0, slots := 0, locals := 54 } : Room) s m args below meth c H locs 0 0 (MQ below (va_Qv xV (yB dC dI cI cJ cB h v i2 j2 a2 b2 A) A) args s 0 0 A) (F0 m 76 ls [.int s0]) := by
  have htt : ∀ w ∈ tw_T, w.before _ s = true := fun w h => hts w (List.mem_cons_of_mem _ h)
  intro H locs ls hP hD hS hl
  rw [m_Model_draws_b76] at hm
  refine lv_istore (lv' := [(16, .int s0), (0, .ref h), (1, .int v1), (2, .int v2), (3, .int v3), (4, .int v4), (5, .int v5), (6, .int v6), (7, .int v7), (8, .int v8), (9, .int v9), (10, .int v10), (11, .int v11), (12, .int v12), (13, .int v13), (14, .int v14), (15, .int v15)]) hx hb d_Model_draws_76 hl (by decide) rfl (fun ls hl => ?_)
  refine lv_iload hx hb d_Model_draws_78 (lv_at hl 13 rfl) ?_
  refine lv_if_eq (tgt := 88) hx hb d_Model_draws_80 (by decide) (fun c_1 => ?_) (fun c_1 => ?_)
  · replace hm := if_t c_1 hm
    refine lv_iload_n hx hb d_Model_draws_88 rfl (lv_at hl 2 rfl) ?_
    exact lb_Model_draws_89 l dC dI cI cJ cB adK adV adA h v n hx hb hml hown hts hK hE hA hr hlocks _ _ _ _ _ _ _ _ _ _ _ _ _ _ _ _ _ _ _ hm _ _ _ hP hD hS (lv_sub hl [1, 3, 4, 5, 7, 8, 9, 10, 11, 12, 13, 14, 15, 16, 0] rfl)
  · replace hm := if_f c_1 hm
    refine lv_iload hx hb d_Model_draws_83 (lv_at hl 6 rfl) ?_
    refine lv_goto (tgt := 89) hx hb d_Model_draws_85 (by decide) ?_
    exact lb_Model_draws_89 l dC dI cI cJ cB adK adV adA h v n hx hb hml hown hts hK hE hA hr hlocks _ _ _ _ _ _ _ _ _ _ _ _ _ _ _ _ _ _ _ hm _ _ _ hP hD hS (lv_sub hl [1, 3, 4, 5, 7, 8, 9, 10, 11, 12, 13, 14, 15, 16, 0] rfl)
def m_Model_draws_b62 (n : Nat) (i : Nat → Int32) (j : Nat → Int64) (a : Nat → Nat → Int32) (b : Nat → Nat → Int64) (v1 : Int32) (v2 : Int32) (v3 : Int32) (v4 : Int32) (v5 : Int32) (v6 : Int32) (v7 : Int32) (v8 : Int32) (v9 : Int32) (v10 : Int32) (v11 : Int32) (v12 : Int32) (v13 : Int32) (v14 : Int32) (s0 : Int32) : Option ((Nat → Int32) × (Nat → Int64) × (Nat → Nat → Int32) × (Nat → Nat → Int64) × Int32) := if v12 = ((0 : Int32)) then m_Model_draws_b76 n i j a b v1 v2 v3 v4 v5 v6 v7 v8 v9 v10 v11 v12 v13 v14 s0 v8 else m_Model_draws_b76 n i j a b v1 v2 v3 v4 v5 v6 v7 v8 v9 v10 v11 v12 v13 v14 s0 v4
set_option maxHeartbeats 4000000 in
set_option maxRecDepth 100000 in
theorem lb_Model_draws_62 (l : Launch) (dC : Nat → ClassId) (dI : Nat → Nat → Nat) (cI cJ cB : ClassId) (adK adV adA : Nat → Nat) (h : Nat) (v : Nat → Nat) (n : Nat) {p : Program} {e : Env} {s : State} {m : MethodId} {args : Array Value} {below : List Frame} {meth : Method} {c : Code} {A : Nat → Prop} (hx : p.tables.exec = Jvm.exec) (hb : c.code = b_Model_draws) (hml : c.maxLocals = 29) (hown : s.vm.findClass R_Model = some m.cls) (hts : ∀ w ∈ w_Model_draws, w.before args s = true) (hK : va_K (dC, dI) classes [(cI, .int), (cJ, .long), (cB, .byte)] s) (hE : tw_E adK adV adA A s s.heap) (hA : ∀ q : Nat, s.heap.size ≤ q → A q) (hr : meth.sig.returnType = none) (hlocks : meth.locks = false) {i2 : Nat → Int32} {j2 : Nat → Int64} {a2 : Nat → Nat → Int32} {b2 : Nat → Nat → Int64} {r2 : Int32} (i : Nat → Int32) (j : Nat → Int64) (a : Nat → Nat → Int32) (b : Nat → Nat → Int64) (v1 : Int32) (v2 : Int32) (v3 : Int32) (v4 : Int32) (v5 : Int32) (v6 : Int32) (v7 : Int32) (v8 : Int32) (v9 : Int32) (v10 : Int32) (v11 : Int32) (v12 : Int32) (v13 : Int32) (v14 : Int32) (s0 : Int32) (hm : m_Model_draws_b62 n i j a b v1 v2 v3 v4 v5 v6 v7 v8 v9 v10 v11 v12 v13 v14 s0 = some (i2, j2, a2, b2, r2)) : ∀ (H : Heap) (locs : List Loc) (ls : Array Slot), va_P (dC, dI) classes (MW cI cJ cB h v i j a b) H → va_D A (MW cI cJ cB h v i j a b) → va_S A s.heap H locs → lv_has ls 29 [(0, .ref h), (1, .int v1), (2, .int v2), (3, .int v3), (4, .int v4), (5, .int v5), (6, .int v6), (7, .int v7), (8, .int v8), (9, .int v9), (10, .int v10), (11, .int v11), (12, .int v12), (13, .int v13), (14, .int v14)] → W p l e ({ frames := 2, cells := 0, slots := 0, locals := 54 } : Room) s m args below meth c H locs 0 0 (MQ below (va_Qv xV (yB dC dI cI cJ cB h v i2 j2 a2 b2 A) A) args s 0 0 A) (F0 m 62 ls [.int s0]) := by
  have htt : ∀ w ∈ tw_T, w.before _ s = true := fun w h => hts w (List.mem_cons_of_mem _ h)
  intro H locs ls hP hD hS hl
  rw [m_Model_draws_b62] at hm
  refine lv_istore (lv' := [(15, .int s0), (0, .ref h), (1, .int v1), (2, .int v2), (3, .int v3), (4, .int v4), (5, .int v5), (6, .int v6), (7, .int v7), (8, .int v8), (9, .int v9), (10, .int v10), (11, .int v11), (12, .int v12), (13, .int v13), (14, .int v14)]) hx hb d_Model_draws_62 hl (by decide) rfl (fun ls hl => ?_)
  refine lv_iload hx hb d_Model_draws_64 (lv_at hl 13 rfl) ?_
  refine lv_if_eq (tgt := 74) hx hb d_Model_draws_66 (by decide) (fun c_1 => ?_) (fun c_1 => ?_)
  · replace hm := if_t c_1 hm
    refine lv_iload hx hb d_Model_draws_74 (lv_at hl 9 rfl) ?_
    exact lb_Model_draws_76 l dC dI cI cJ cB adK adV adA h v n hx hb hml hown hts hK hE hA hr hlocks _ _ _ _ _ _ _ _ _ _ _ _ _ _ _ _ _ _ _ _ hm _ _ _ hP hD hS (lv_sub hl [1, 2, 3, 4, 5, 6, 7, 8, 9, 10, 11, 12, 13, 14, 15, 0] rfl)
  · replace hm := if_f c_1 hm
    refine lv_iload hx hb d_Model_draws_69 (lv_at hl 5 rfl) ?_
    refine lv_goto (tgt := 76) hx hb d_Model_draws_71 (by decide) ?_
    exact lb_Model_draws_76 l dC dI cI cJ cB adK adV adA h v n hx hb hml hown hts hK hE hA hr hlocks _ _ _ _ _ _ _ _ _ _ _ _ _ _ _ _ _ _ _ _ hm _ _ _ hP hD hS (lv_sub hl [1, 2, 3, 4, 5, 6, 7, 8, 9, 10, 11, 12, 13, 14, 15, 0] rfl)
def m_Model_draws_b49 (n : Nat) (i : Nat → Int32) (j : Nat → Int64) (a : Nat → Nat → Int32) (b : Nat → Nat → Int64) (v1 : Int32) (v2 : Int32) (v3 : Int32) (v4 : Int32) (v5 : Int32) (v6 : Int32) (v7 : Int32) (v8 : Int32) (v9 : Int32) (v10 : Int32) (v11 : Int32) (v12 : Int32) (v13 : Int32) (s0 : Int32) : Option ((Nat → Int32) × (Nat → Int64) × (Nat → Nat → Int32) × (Nat → Nat → Int64) × Int32) := if v12 = ((0 : Int32)) then m_Model_draws_b62 n i j a b v1 v2 v3 v4 v5 v6 v7 v8 v9 v10 v11 v12 v13 s0 v7 else m_Model_draws_b62 n i j a b v1 v2 v3 v4 v5 v6 v7 v8 v9 v10 v11 v12 v13 s0 v3
set_option maxHeartbeats 4000000 in
set_option maxRecDepth 100000 in
theorem lb_Model_draws_49 (l : Launch) (dC : Nat → ClassId) (dI : Nat → Nat → Nat) (cI cJ cB : ClassId) (adK adV adA : Nat → Nat) (h : Nat) (v : Nat → Nat) (n : Nat) {p : Program} {e : Env} {s : State} {m : MethodId} {args : Array Value} {below : List Frame} {meth : Method} {c : Code} {A : Nat → Prop} (hx : p.tables.exec = Jvm.exec) (hb : c.code = b_Model_draws) (hml : c.maxLocals = 29) (hown : s.vm.findClass R_Model = some m.cls) (hts : ∀ w ∈ w_Model_draws, w.before args s = true) (hK : va_K (dC, dI) classes [(cI, .int), (cJ, .long), (cB, .byte)] s) (hE : tw_E adK adV adA A s s.heap) (hA : ∀ q : Nat, s.heap.size ≤ q → A q) (hr : meth.sig.returnType = none) (hlocks : meth.locks = false) {i2 : Nat → Int32} {j2 : Nat → Int64} {a2 : Nat → Nat → Int32} {b2 : Nat → Nat → Int64} {r2 : Int32} (i : Nat → Int32) (j : Nat → Int64) (a : Nat → Nat → Int32) (b : Nat → Nat → Int64) (v1 : Int32) (v2 : Int32) (v3 : Int32) (v4 : Int32) (v5 : Int32) (v6 : Int32) (v7 : Int32) (v8 : Int32) (v9 : Int32) (v10 : Int32) (v11 : Int32) (v12 : Int32) (v13 : Int32) (s0 : Int32) (hm : m_Model_draws_b49 n i j a b v1 v2 v3 v4 v5 v6 v7 v8 v9 v10 v11 v12 v13 s0 = some (i2, j2, a2, b2, r2)) : ∀ (H : Heap) (locs : List Loc) (ls : Array Slot), va_P (dC, dI) classes (MW cI cJ cB h v i j a b) H → va_D A (MW cI cJ cB h v i j a b) → va_S A s.heap H locs → lv_has ls 29 [(0, .ref h), (1, .int v1), (2, .int v2), (3, .int v3), (4, .int v4), (5, .int v5), (6, .int v6), (7, .int v7), (8, .int v8), (9, .int v9), (10, .int v10), (11, .int v11), (12, .int v12), (13, .int v13)] → W p l e ({ frames := 2, cells := 0, slots := 0, locals := 54 } : Room) s m args below meth c H locs 0 0 (MQ below (va_Qv xV (yB dC dI cI cJ cB h v i2 j2 a2 b2 A) A) args s 0 0 A) (F0 m 49 ls [.int s0]) := by
  have htt : ∀ w ∈ tw_T, w.before _ s = true := fun w h => hts w (List.mem_cons_of_mem _ h)
  intro H locs ls hP hD hS hl
  rw [m_Model_draws_b49] at hm
  refine lv_istore (lv' := [(14, .int s0), (0, .ref h), (1, .int v1), (2, .int v2), (3, .int v3), (4, .int v4), (5, .int v5), (6, .int v6), (7, .int v7), (8, .int v8), (9, .int v9), (10, .int v10), (11, .int v11), (12, .int v12), (13, .int v13)]) hx hb d_Model_draws_49 hl (by decide) rfl (fun ls hl => ?_)
  refine lv_iload hx hb d_Model_draws_51 (lv_at hl 13 rfl) ?_
  refine lv_if_eq (tgt := 60) hx hb d_Model_draws_53 (by decide) (fun c_1 => ?_) (fun c_1 => ?_)
  · replace hm := if_t c_1 hm
    refine lv_iload hx hb d_Model_draws_60 (lv_at hl 8 rfl) ?_
    exact lb_Model_draws_62 l dC dI cI cJ cB adK adV adA h v n hx hb hml hown hts hK hE hA hr hlocks _ _ _ _ _ _ _ _ _ _ _ _ _ _ _ _ _ _ _ hm _ _ _ hP hD hS (lv_sub hl [1, 2, 3, 4, 5, 6, 7, 8, 9, 10, 11, 12, 13, 14, 0] rfl)
  · replace hm := if_f c_1 hm
    refine lv_iload_n hx hb d_Model_draws_56 rfl (lv_at hl 4 rfl) ?_
    refine lv_goto (tgt := 62) hx hb d_Model_draws_57 (by decide) ?_
    exact lb_Model_draws_62 l dC dI cI cJ cB adK adV adA h v n hx hb hml hown hts hK hE hA hr hlocks _ _ _ _ _ _ _ _ _ _ _ _ _ _ _ _ _ _ _ hm _ _ _ hP hD hS (lv_sub hl [1, 2, 3, 4, 5, 6, 7, 8, 9, 10, 11, 12, 13, 14, 0] rfl)
def m_Model_draws_b36 (n : Nat) (i : Nat → Int32) (j : Nat → Int64) (a : Nat → Nat → Int32) (b : Nat → Nat → Int64) (v1 : Int32) (v2 : Int32) (v3 : Int32) (v4 : Int32) (v5 : Int32) (v6 : Int32) (v7 : Int32) (v8 : Int32) (v9 : Int32) (v10 : Int32) (v11 : Int32) (v12 : Int32) (s0 : Int32) : Option ((Nat → Int32) × (Nat → Int64) × (Nat → Nat → Int32) × (Nat → Nat → Int64) × Int32) := if v12 = ((0 : Int32)) then m_Model_draws_b49 n i j a b v1 v2 v3 v4 v5 v6 v7 v8 v9 v10 v11 v12 s0 v6 else m_Model_draws_b49 n i j a b v1 v2 v3 v4 v5 v6 v7 v8 v9 v10 v11 v12 s0 v2
set_option maxHeartbeats 4000000 in
set_option maxRecDepth 100000 in
theorem lb_Model_draws_36 (l : Launch) (dC : Nat → ClassId) (dI : Nat → Nat → Nat) (cI cJ cB : ClassId) (adK adV adA : Nat → Nat) (h : Nat) (v : Nat → Nat) (n : Nat) {p : Program} {e : Env} {s : State} {m : MethodId} {args : Array Value} {below : List Frame} {meth : Method} {c : Code} {A : Nat → Prop} (hx : p.tables.exec = Jvm.exec) (hb : c.code = b_Model_draws) (hml : c.maxLocals = 29) (hown : s.vm.findClass R_Model = some m.cls) (hts : ∀ w ∈ w_Model_draws, w.before args s = true) (hK : va_K (dC, dI) classes [(cI, .int), (cJ, .long), (cB, .byte)] s) (hE : tw_E adK adV adA A s s.heap) (hA : ∀ q : Nat, s.heap.size ≤ q → A q) (hr : meth.sig.returnType = none) (hlocks : meth.locks = false) {i2 : Nat → Int32} {j2 : Nat → Int64} {a2 : Nat → Nat → Int32} {b2 : Nat → Nat → Int64} {r2 : Int32} (i : Nat → Int32) (j : Nat → Int64) (a : Nat → Nat → Int32) (b : Nat → Nat → Int64) (v1 : Int32) (v2 : Int32) (v3 : Int32) (v4 : Int32) (v5 : Int32) (v6 : Int32) (v7 : Int32) (v8 : Int32) (v9 : Int32) (v10 : Int32) (v11 : Int32) (v12 : Int32) (s0 : Int32) (hm : m_Model_draws_b36 n i j a b v1 v2 v3 v4 v5 v6 v7 v8 v9 v10 v11 v12 s0 = some (i2, j2, a2, b2, r2)) : ∀ (H : Heap) (locs : List Loc) (ls : Array Slot), va_P (dC, dI) classes (MW cI cJ cB h v i j a b) H → va_D A (MW cI cJ cB h v i j a b) → va_S A s.heap H locs → lv_has ls 29 [(0, .ref h), (1, .int v1), (2, .int v2), (3, .int v3), (4, .int v4), (5, .int v5), (6, .int v6), (7, .int v7), (8, .int v8), (9, .int v9), (10, .int v10), (11, .int v11), (12, .int v12)] → W p l e ({ frames := 2, cells := 0, slots := 0, locals := 54 } : Room) s m args below meth c H locs 0 0 (MQ below (va_Qv xV (yB dC dI cI cJ cB h v i2 j2 a2 b2 A) A) args s 0 0 A) (F0 m 36 ls [.int s0]) := by
  have htt : ∀ w ∈ tw_T, w.before _ s = true := fun w h => hts w (List.mem_cons_of_mem _ h)
  intro H locs ls hP hD hS hl
  rw [m_Model_draws_b36] at hm
  refine lv_istore (lv' := [(13, .int s0), (0, .ref h), (1, .int v1), (2, .int v2), (3, .int v3), (4, .int v4), (5, .int v5), (6, .int v6), (7, .int v7), (8, .int v8), (9, .int v9), (10, .int v10), (11, .int v11), (12, .int v12)]) hx hb d_Model_draws_36 hl (by decide) rfl (fun ls hl => ?_)
  refine lv_iload hx hb d_Model_draws_38 (lv_at hl 13 rfl) ?_
  refine lv_if_eq (tgt := 47) hx hb d_Model_draws_40 (by decide) (fun c_1 => ?_) (fun c_1 => ?_)
  · replace hm := if_t c_1 hm
    refine lv_iload hx hb d_Model_draws_47 (lv_at hl 7 rfl) ?_
    exact lb_Model_draws_49 l dC dI cI cJ cB adK adV adA h v n hx hb hml hown hts hK hE hA hr hlocks _ _ _ _ _ _ _ _ _ _ _ _ _ _ _ _ _ _ hm _ _ _ hP hD hS (lv_sub hl [1, 2, 3, 4, 5, 6, 7, 8, 9, 10, 11, 12, 13, 0] rfl)
  · replace hm := if_f c_1 hm
    refine lv_iload_n hx hb d_Model_draws_43 rfl (lv_at hl 3 rfl) ?_
    refine lv_goto (tgt := 49) hx hb d_Model_draws_44 (by decide) ?_
    exact lb_Model_draws_49 l dC dI cI cJ cB adK adV adA h v n hx hb hml hown hts hK hE hA hr hlocks _ _ _ _ _ _ _ _ _ _ _ _ _ _ _ _ _ _ hm _ _ _ hP hD hS (lv_sub hl [1, 2, 3, 4, 5, 6, 7, 8, 9, 10, 11, 12, 13, 0] rfl)
def m_Model_draws_b23 (n : Nat) (i : Nat → Int32) (j : Nat → Int64) (a : Nat → Nat → Int32) (b : Nat → Nat → Int64) (v1 : Int32) (v2 : Int32) (v3 : Int32) (v4 : Int32) (v5 : Int32) (v6 : Int32) (v7 : Int32) (v8 : Int32) (v9 : Int32) (v10 : Int32) (v11 : Int32) (s0 : Int32) : Option ((Nat → Int32) × (Nat → Int64) × (Nat → Nat → Int32) × (Nat → Nat → Int64) × Int32) := if s0 = ((0 : Int32)) then m_Model_draws_b36 n i j a b v1 v2 v3 v4 v5 v6 v7 v8 v9 v10 v11 s0 v5 else m_Model_draws_b36 n i j a b v1 v2 v3 v4 v5 v6 v7 v8 v9 v10 v11 s0 v1
set_option maxHeartbeats 4000000 in
set_option maxRecDepth 100000 in
theorem lb_Model_draws_23 (l : Launch) (dC : Nat → ClassId) (dI : Nat → Nat → Nat) (cI cJ cB : ClassId) (adK adV adA : Nat → Nat) (h : Nat) (v : Nat → Nat) (n : Nat) {p : Program} {e : Env} {s : State} {m : MethodId} {args : Array Value} {below : List Frame} {meth : Method} {c : Code} {A : Nat → Prop} (hx : p.tables.exec = Jvm.exec) (hb : c.code = b_Model_draws) (hml : c.maxLocals = 29) (hown : s.vm.findClass R_Model = some m.cls) (hts : ∀ w ∈ w_Model_draws, w.before args s = true) (hK : va_K (dC, dI) classes [(cI, .int), (cJ, .long), (cB, .byte)] s) (hE : tw_E adK adV adA A s s.heap) (hA : ∀ q : Nat, s.heap.size ≤ q → A q) (hr : meth.sig.returnType = none) (hlocks : meth.locks = false) {i2 : Nat → Int32} {j2 : Nat → Int64} {a2 : Nat → Nat → Int32} {b2 : Nat → Nat → Int64} {r2 : Int32} (i : Nat → Int32) (j : Nat → Int64) (a : Nat → Nat → Int32) (b : Nat → Nat → Int64) (v1 : Int32) (v2 : Int32) (v3 : Int32) (v4 : Int32) (v5 : Int32) (v6 : Int32) (v7 : Int32) (v8 : Int32) (v9 : Int32) (v10 : Int32) (v11 : Int32) (s0 : Int32) (hm : m_Model_draws_b23 n i j a b v1 v2 v3 v4 v5 v6 v7 v8 v9 v10 v11 s0 = some (i2, j2, a2, b2, r2)) : ∀ (H : Heap) (locs : List Loc) (ls : Array Slot), va_P (dC, dI) classes (MW cI cJ cB h v i j a b) H → va_D A (MW cI cJ cB h v i j a b) → va_S A s.heap H locs → lv_has ls 29 [(0, .ref h), (1, .int v1), (2, .int v2), (3, .int v3), (4, .int v4), (5, .int v5), (6, .int v6), (7, .int v7), (8, .int v8), (9, .int v9), (10, .int v10), (11, .int v11)] → W p l e ({ frames := 2, cells := 0, slots := 0, locals := 54 } : Room) s m args below meth c H locs 0 0 (MQ below (va_Qv xV (yB dC dI cI cJ cB h v i2 j2 a2 b2 A) A) args s 0 0 A) (F0 m 23 ls [.int s0]) := by
  have htt : ∀ w ∈ tw_T, w.before _ s = true := fun w h => hts w (List.mem_cons_of_mem _ h)
  intro H locs ls hP hD hS hl
  rw [m_Model_draws_b23] at hm
  refine lv_istore (lv' := [(12, .int s0), (0, .ref h), (1, .int v1), (2, .int v2), (3, .int v3), (4, .int v4), (5, .int v5), (6, .int v6), (7, .int v7), (8, .int v8), (9, .int v9), (10, .int v10), (11, .int v11)]) hx hb d_Model_draws_23 hl (by decide) rfl (fun ls hl => ?_)
  refine lv_iload hx hb d_Model_draws_25 (lv_at hl 0 rfl) ?_
  refine lv_if_eq (tgt := 34) hx hb d_Model_draws_27 (by decide) (fun c_1 => ?_) (fun c_1 => ?_)
  · replace hm := if_t c_1 hm
    refine lv_iload hx hb d_Model_draws_34 (lv_at hl 6 rfl) ?_
    exact lb_Model_draws_36 l dC dI cI cJ cB adK adV adA h v n hx hb hml hown hts hK hE hA hr hlocks _ _ _ _ _ _ _ _ _ _ _ _ _ _ _ _ _ hm _ _ _ hP hD hS (lv_sub hl [1, 2, 3, 4, 5, 6, 7, 8, 9, 10, 11, 12, 0] rfl)
  · replace hm := if_f c_1 hm
    refine lv_iload_n hx hb d_Model_draws_30 rfl (lv_at hl 2 rfl) ?_
    refine lv_goto (tgt := 36) hx hb d_Model_draws_31 (by decide) ?_
    exact lb_Model_draws_36 l dC dI cI cJ cB adK adV adA h v n hx hb hml hown hts hK hE hA hr hlocks _ _ _ _ _ _ _ _ _ _ _ _ _ _ _ _ _ hm _ _ _ hP hD hS (lv_sub hl [1, 2, 3, 4, 5, 6, 7, 8, 9, 10, 11, 12, 0] rfl)
def m_Model_draws (n : Nat) (i : Nat → Int32) (j : Nat → Int64) (a : Nat → Nat → Int32) (b : Nat → Nat → Int64) (v1 : Int32) (v2 : Int32) (v3 : Int32) (v4 : Int32) (v5 : Int32) (v6 : Int32) (v7 : Int32) (v8 : Int32) (v9 : Int32) (v10 : Int32) (v11 : Int32) : Option ((Nat → Int32) × (Nat → Int64) × (Nat → Nat → Int32) × (Nat → Nat → Int64) × Int32) := ob0 (m_Model_sign n (v5.toInt64 - v1.toInt64) (v6.toInt64 - v2.toInt64)) (fun r_2 => if r_2 < ((0 : Int32)) then m_Model_draws_b23 n i j a b v1 v2 v3 v4 v5 v6 v7 v8 v9 v10 v11 (0 : Int32) else m_Model_draws_b23 n i j a b v1 v2 v3 v4 v5 v6 v7 v8 v9 v10 v11 (1 : Int32))
set_option maxHeartbeats 4000000 in
set_option maxRecDepth 100000 in
theorem x_Model_draws (l : Launch) (dC : Nat → ClassId) (dI : Nat → Nat → Nat) (cI cJ cB : ClassId) (adK adV adA : Nat → Nat) (h : Nat) (v : Nat → Nat) (sz : Nat) (n : Nat) {i : Nat → Int32} {j : Nat → Int64} {a : Nat → Nat → Int32} {b : Nat → Nat → Int64} {v1 : Int32} {v2 : Int32} {v3 : Int32} {v4 : Int32} {v5 : Int32} {v6 : Int32} {v7 : Int32} {v8 : Int32} {v9 : Int32} {v10 : Int32} {v11 : Int32} {i2 : Nat → Int32} {j2 : Nat → Int64} {a2 : Nat → Nat → Int32} {b2 : Nat → Nat → Int64} {r2 : Int32} (hm : m_Model_draws n i j a b v1 v2 v3 v4 v5 v6 v7 v8 v9 v10 v11 = some (i2, j2, a2, b2, r2)) : Met l y_Model_draws w_Model_draws ({ frames := 2, cells := 0, slots := 0, locals := 54 } : Room) (va_Pc [.ref h, .int v1, .int v2, .int v3, .int v4, .int v5, .int v6, .int v7, .int v8, .int v9, .int v10, .int v11] (yE dC dI cI cJ cB adK adV adA h v i j a b sz)) (va_Qv xV (yB dC dI cI cJ cB h v i2 j2 a2 b2 (va_A (MW cI cJ cB h v i j a b) sz)) (va_A (MW cI cJ cB h v i j a b) sz)) 0 0 ((va_A (MW cI cJ cB h v i j a b) sz)) := by
  refine Met.ofW (cc := b_Model_draws) (maxL := 29) (ret := none) (by decide) rfl ?_
  intro p e s m args below meth c s₁ B hml hv
  obtain ⟨rfl, hsz, hP, hK, hE, hD0⟩ := hv
  have hx := B.exec
  have hb := B.bytes
  have hr := B.returns
  have hts := atoms_spec (ws := w_Model_draws) B.pre
  have htt : ∀ w ∈ tw_T, w.before _ s = true := fun w h => hts w (List.mem_cons_of_mem _ h)
  have hown : s.vm.findClass R_Model = some m.cls := findClass_of_methodNamed B.named
  have hlocks := B.notSynchronized
  subst hsz
  have hD := hD0.self (sz := s.heap.size)
  generalize hAe : (va_A (MW cI cJ cB h v i j a b) s.heap.size) = A at hD hE ⊢
  have hA : ∀ q : Nat, s.heap.size ≤ q → A q := fun q h => by rw [← hAe]; exact Or.inr h
  have hS : va_S A s.heap s.heap [] := va_S.rf
  have hl := lv_entry ([.ref h, .int v1, .int v2, .int v3, .int v4, .int v5, .int v6, .int v7, .int v8, .int v9, .int v10, .int v11]) (n := 29) (Nat.le_of_ble_eq_true rfl)
  rw [lg_entry_eq]
  generalize (lg_sl ([.ref h, .int v1, .int v2, .int v3, .int v4, .int v5, .int v6, .int v7, .int v8, .int v9, .int v10, .int v11]) ++ List.replicate (29 - (lg_sl ([.ref h, .int v1, .int v2, .int v3, .int v4, .int v5, .int v6, .int v7, .int v8, .int v9, .int v10, .int v11])).length) Slot.unset).toArray = ls at hl ⊢
  have hl : lv_has ls 29 [(0, .ref h), (1, .int v1), (2, .int v2), (3, .int v3), (4, .int v4), (5, .int v5), (6, .int v6), (7, .int v7), (8, .int v8), (9, .int v9), (10, .int v10), (11, .int v11)] := hl
  rw [m_Model_draws] at hm
  refine lv_iload hx hb d_Model_draws_0 (lv_at hl 5 rfl) ?_
  refine lv_i2l hx hb d_Model_draws_2 rfl ?_
  refine lv_iload_n hx hb d_Model_draws_3 rfl (lv_at hl 1 rfl) ?_
  refine lv_i2l hx hb d_Model_draws_4 rfl ?_
  refine lv_lsub hx hb d_Model_draws_5 ?_
  refine lv_iload hx hb d_Model_draws_6 (lv_at hl 6 rfl) ?_
  refine lv_i2l hx hb d_Model_draws_8 rfl ?_
  refine lv_iload_n hx hb d_Model_draws_9 rfl (lv_at hl 2 rfl) ?_
  refine lv_i2l hx hb d_Model_draws_10 rfl ?_
  refine lv_lsub hx hb d_Model_draws_11 ?_
  obtain ⟨r_2, h_1, hm⟩ := ob0_some hm
  have hFc := x_free0 hS hA
  refine va_calli (va_runS (As := [.long (v5.toInt64 - v1.toInt64), .long (v6.toInt64 - v2.toInt64)]) (rest := []) ⟨hx, hb, hml, hown, hts⟩ (x_Model_sign l s.heap.size n h_1) (va_cwS 2 hts (tw_GS tw_cons cw_Model_sign lk_Model_842 st_Model_sign ini_Model) rfl rfl rfl hd_Model_sign ⟨Nat.le_of_ble_eq_true rfl, Nat.le_of_ble_eq_true rfl⟩) xpS0 rfl rfl hl.1 rfl (lv_room (Nat.le_of_ble_eq_true rfl)) d_Model_draws_12 ⟨Nat.le_of_ble_eq_true rfl, Nat.le_of_ble_eq_true rfl⟩) hS (fun q _ h => hFc q h) hFc (fun r9 u9 t9 H locs ht hvm e9 hB hz1 hk1 hS => ?_)
  have e9 : r_2 = r9 := e9
  subst e9
  replace hP := x_keep hP hk1
  clear hFc hk1 hz1 hvm hB ht
  refine lv_if_lt (tgt := 22) hx hb d_Model_draws_15 (by decide) (fun c_3 => ?_) (fun c_3 => ?_)
  · replace hm := if_t c_3 hm
    refine lv_iconst (v := 0) hx hb d_Model_draws_22 (by decide) ?_
    exact lb_Model_draws_23 l dC dI cI cJ cB adK adV adA h v n hx hb hml hown hts hK hE hA hr hlocks _ _ _ _ _ _ _ _ _ _ _ _ _ _ _ _ hm _ _ _ hP hD hS (lv_sub hl [0, 1, 2, 3, 4, 5, 6, 7, 8, 9, 10, 11] rfl)
  · replace hm := if_f c_3 hm
    refine lv_iconst (v := 1) hx hb d_Model_draws_18 (by decide) ?_
    refine lv_goto (tgt := 23) hx hb d_Model_draws_19 (by decide) ?_
    exact lb_Model_draws_23 l dC dI cI cJ cB adK adV adA h v n hx hb hml hown hts hK hE hA hr hlocks _ _ _ _ _ _ _ _ _ _ _ _ _ _ _ _ hm _ _ _ hP hD hS (lv_sub hl [0, 1, 2, 3, 4, 5, 6, 7, 8, 9, 10, 11] rfl)
