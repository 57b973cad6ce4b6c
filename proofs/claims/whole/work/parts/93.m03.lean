theorem d_Model_found_0 : decode b_Model_found 0 = .ok (.aload_n 0, 1) := by decide +kernel
theorem d_Model_found_1 : decode b_Model_found 1 = .ok (.getfield 538, 3) := by decide +kernel
theorem d_Model_found_4 : decode b_Model_found 4 = .ok (.iconst 1, 1) := by decide +kernel
theorem d_Model_found_5 : decode b_Model_found 5 = .ok (.isub, 1) := by decide +kernel
theorem d_Model_found_6 : decode b_Model_found 6 = .ok (.istore_n 3, 1) := by decide +kernel
theorem d_Model_found_7 : decode b_Model_found 7 = .ok (.iload_n 3, 1) := by decide +kernel
theorem d_Model_found_8 : decode b_Model_found 8 = .ok (.ifCond .lt 73, 3) := by decide +kernel
theorem d_Model_found_11 : decode b_Model_found 11 = .ok (.bipush 12, 2) := by decide +kernel
theorem d_Model_found_13 : decode b_Model_found 13 = .ok (.iload_n 3, 1) := by decide +kernel
theorem d_Model_found_14 : decode b_Model_found 14 = .ok (.imul, 1) := by decide +kernel
theorem d_Model_found_15 : decode b_Model_found 15 = .ok (.istore 4, 2) := by decide +kernel
theorem d_Model_found_17 : decode b_Model_found 17 = .ok (.iload 4, 2) := by decide +kernel
theorem d_Model_found_19 : decode b_Model_found 19 = .ok (.bipush 12, 2) := by decide +kernel
theorem d_Model_found_21 : decode b_Model_found 21 = .ok (.iload_n 3, 1) := by decide +kernel
theorem d_Model_found_22 : decode b_Model_found 22 = .ok (.imul, 1) := by decide +kernel
theorem d_Model_found_23 : decode b_Model_found 23 = .ok (.aload_n 0, 1) := by decide +kernel
theorem d_Model_found_24 : decode b_Model_found 24 = .ok (.getfield 307, 3) := by decide +kernel
theorem d_Model_found_27 : decode b_Model_found 27 = .ok (.iload_n 3, 1) := by decide +kernel
theorem d_Model_found_28 : decode b_Model_found 28 = .ok (.iaload, 1) := by decide +kernel
theorem d_Model_found_29 : decode b_Model_found 29 = .ok (.iadd, 1) := by decide +kernel
theorem d_Model_found_30 : decode b_Model_found 30 = .ok (.if_icmp .ge 45, 3) := by decide +kernel
theorem d_Model_found_33 : decode b_Model_found 33 = .ok (.aload_n 0, 1) := by decide +kernel
theorem d_Model_found_34 : decode b_Model_found 34 = .ok (.aload_n 0, 1) := by decide +kernel
theorem d_Model_found_35 : decode b_Model_found 35 = .ok (.getfield 15, 3) := by decide +kernel
theorem d_Model_found_38 : decode b_Model_found 38 = .ok (.aload_n 0, 1) := by decide +kernel
theorem d_Model_found_39 : decode b_Model_found 39 = .ok (.getfield 310, 3) := by decide +kernel
theorem d_Model_found_42 : decode b_Model_found 42 = .ok (.iload 4, 2) := by decide +kernel
theorem d_Model_found_44 : decode b_Model_found 44 = .ok (.iaload, 1) := by decide +kernel
theorem d_Model_found_45 : decode b_Model_found 45 = .ok (.iaload, 1) := by decide +kernel
theorem d_Model_found_46 : decode b_Model_found 46 = .ok (.aload_n 0, 1) := by decide +kernel
theorem d_Model_found_47 : decode b_Model_found 47 = .ok (.getfield 22, 3) := by decide +kernel
theorem d_Model_found_50 : decode b_Model_found 50 = .ok (.aload_n 0, 1) := by decide +kernel
theorem d_Model_found_51 : decode b_Model_found 51 = .ok (.getfield 310, 3) := by decide +kernel
theorem d_Model_found_54 : decode b_Model_found 54 = .ok (.iload 4, 2) := by decide +kernel
theorem d_Model_found_56 : decode b_Model_found 56 = .ok (.iaload, 1) := by decide +kernel
theorem d_Model_found_57 : decode b_Model_found 57 = .ok (.iaload, 1) := by decide +kernel
theorem d_Model_found_58 : decode b_Model_found 58 = .ok (.iload_n 1, 1) := by decide +kernel
theorem d_Model_found_59 : decode b_Model_found 59 = .ok (.iload_n 2, 1) := by decide +kernel
theorem d_Model_found_60 : decode b_Model_found 60 = .ok (.invokevirtual 71, 3) := by decide +kernel
theorem d_Model_found_63 : decode b_Model_found 63 = .ok (.ifCond .eq 6, 3) := by decide +kernel
theorem d_Model_found_66 : decode b_Model_found 66 = .ok (.iload 4, 2) := by decide +kernel
theorem d_Model_found_68 : decode b_Model_found 68 = .ok (.ireturn, 1) := by decide +kernel
theorem d_Model_found_69 : decode b_Model_found 69 = .ok (.iinc 4 1, 3) := by decide +kernel
theorem d_Model_found_72 : decode b_Model_found 72 = .ok (.goto (-55), 3) := by decide +kernel
theorem d_Model_found_75 : decode b_Model_found 75 = .ok (.iinc 3 (-1), 3) := by decide +kernel
theorem d_Model_found_78 : decode b_Model_found 78 = .ok (.goto (-71), 3) := by decide +kernel
theorem d_Model_found_81 : decode b_Model_found 81 = .ok (.iconst 0, 1) := by decide +kernel
theorem d_Model_found_82 : decode b_Model_found 82 = .ok (.istore_n 3, 1) := by decide +kernel
theorem d_Model_found_83 : decode b_Model_found 83 = .ok (.iload_n 3, 1) := by decide +kernel
theorem d_Model_found_84 : decode b_Model_found 84 = .ok (.aload_n 0, 1) := by decide +kernel
theorem d_Model_found_85 : decode b_Model_found 85 = .ok (.getfield 350, 3) := by decide +kernel
theorem d_Model_found_88 : decode b_Model_found 88 = .ok (.if_icmp .ge 46, 3) := by decide +kernel
theorem d_Model_found_91 : decode b_Model_found 91 = .ok (.aload_n 0, 1) := by decide +kernel
theorem d_Model_found_92 : decode b_Model_found 92 = .ok (.aload_n 0, 1) := by decide +kernel
theorem d_Model_found_93 : decode b_Model_found 93 = .ok (.getfield 15, 3) := by decide +kernel
theorem d_Model_found_96 : decode b_Model_found 96 = .ok (.aload_n 0, 1) := by decide +kernel
theorem d_Model_found_97 : decode b_Model_found 97 = .ok (.getfield 195, 3) := by decide +kernel
theorem d_Model_found_100 : decode b_Model_found 100 = .ok (.iload_n 3, 1) := by decide +kernel
theorem d_Model_found_101 : decode b_Model_found 101 = .ok (.iaload, 1) := by decide +kernel
theorem d_Model_found_102 : decode b_Model_found 102 = .ok (.iaload, 1) := by decide +kernel
theorem d_Model_found_103 : decode b_Model_found 103 = .ok (.aload_n 0, 1) := by decide +kernel
theorem d_Model_found_104 : decode b_Model_found 104 = .ok (.getfield 22, 3) := by decide +kernel
theorem d_Model_found_107 : decode b_Model_found 107 = .ok (.aload_n 0, 1) := by decide +kernel
theorem d_Model_found_108 : decode b_Model_found 108 = .ok (.getfield 195, 3) := by decide +kernel
theorem d_Model_found_111 : decode b_Model_found 111 = .ok (.iload_n 3, 1) := by decide +kernel
theorem d_Model_found_112 : decode b_Model_found 112 = .ok (.iaload, 1) := by decide +kernel
theorem d_Model_found_113 : decode b_Model_found 113 = .ok (.iaload, 1) := by decide +kernel
theorem d_Model_found_114 : decode b_Model_found 114 = .ok (.iload_n 1, 1) := by decide +kernel
theorem d_Model_found_115 : decode b_Model_found 115 = .ok (.iload_n 2, 1) := by decide +kernel
theorem d_Model_found_116 : decode b_Model_found 116 = .ok (.invokevirtual 71, 3) := by decide +kernel
theorem d_Model_found_119 : decode b_Model_found 119 = .ok (.ifCond .eq 9, 3) := by decide +kernel
theorem d_Model_found_122 : decode b_Model_found 122 = .ok (.sipush 10000, 3) := by decide +kernel
theorem d_Model_found_125 : decode b_Model_found 125 = .ok (.iload_n 3, 1) := by decide +kernel
theorem d_Model_found_126 : decode b_Model_found 126 = .ok (.iadd, 1) := by decide +kernel
theorem d_Model_found_127 : decode b_Model_found 127 = .ok (.ireturn, 1) := by decide +kernel
theorem d_Model_found_128 : decode b_Model_found 128 = .ok (.iinc 3 1, 3) := by decide +kernel
theorem d_Model_found_131 : decode b_Model_found 131 = .ok (.goto (-48), 3) := by decide +kernel
theorem d_Model_found_134 : decode b_Model_found 134 = .ok (.iconst (-1), 1) := by decide +kernel
theorem d_Model_found_135 : decode b_Model_found 135 = .ok (.ireturn, 1) := by decide +kernel
theorem d_Model_floor_0 : decode b_Model_floor 0 = .ok (.ldc2_w 7, 3) := by decide +kernel
theorem d_Model_floor_3 : decode b_Model_floor 3 = .ok (.lload_n 2, 1) := by decide +kernel
theorem d_Model_floor_4 : decode b_Model_floor 4 = .ok (.lmul, 1) := by decide +kernel
theorem d_Model_floor_5 : decode b_Model_floor 5 = .ok (.lload_n 2, 1) := by decide +kernel
theorem d_Model_floor_6 : decode b_Model_floor 6 = .ok (.lmul, 1) := by decide +kernel
theorem d_Model_floor_7 : decode b_Model_floor 7 = .ok (.invokestatic 795, 3) := by decide +kernel
theorem d_Model_floor_10 : decode b_Model_floor 10 = .ok (.lstore 6, 2) := by decide +kernel
theorem d_Model_floor_12 : decode b_Model_floor 12 = .ok (.lload_n 2, 1) := by decide +kernel
theorem d_Model_floor_13 : decode b_Model_floor 13 = .ok (.lconst 0, 1) := by decide +kernel
theorem d_Model_floor_14 : decode b_Model_floor 14 = .ok (.lcmp, 1) := by decide +kernel
theorem d_Model_floor_15 : decode b_Model_floor 15 = .ok (.ifCond .ge 11, 3) := by decide +kernel
theorem d_Model_floor_18 : decode b_Model_floor 18 = .ok (.lload 6, 2) := by decide +kernel
theorem d_Model_floor_20 : decode b_Model_floor 20 = .ok (.lneg, 1) := by decide +kernel
theorem d_Model_floor_21 : decode b_Model_floor 21 = .ok (.lconst 1, 1) := by decide +kernel
theorem d_Model_floor_22 : decode b_Model_floor 22 = .ok (.lsub, 1) := by decide +kernel
theorem d_Model_floor_23 : decode b_Model_floor 23 = .ok (.goto 5, 3) := by decide +kernel
theorem d_Model_floor_26 : decode b_Model_floor 26 = .ok (.lload 6, 2) := by decide +kernel
theorem d_Model_floor_28 : decode b_Model_floor 28 = .ok (.lstore 8, 2) := by decide +kernel
theorem d_Model_floor_30 : decode b_Model_floor 30 = .ok (.lload_n 0, 1) := by decide +kernel
theorem d_Model_floor_31 : decode b_Model_floor 31 = .ok (.lload_n 2, 1) := by decide +kernel
theorem d_Model_floor_32 : decode b_Model_floor 32 = .ok (.lconst 0, 1) := by decide +kernel
theorem d_Model_floor_33 : decode b_Model_floor 33 = .ok (.lcmp, 1) := by decide +kernel
theorem d_Model_floor_34 : decode b_Model_floor 34 = .ok (.ifCond .ne 7, 3) := by decide +kernel
theorem d_Model_floor_37 : decode b_Model_floor 37 = .ok (.lconst 0, 1) := by decide +kernel
theorem d_Model_floor_38 : decode b_Model_floor 38 = .ok (.goto 5, 3) := by decide +kernel
theorem d_Model_floor_41 : decode b_Model_floor 41 = .ok (.lload 8, 2) := by decide +kernel
theorem d_Model_floor_43 : decode b_Model_floor 43 = .ok (.ladd, 1) := by decide +kernel
theorem d_Model_floor_44 : decode b_Model_floor 44 = .ok (.lload 4, 2) := by decide +kernel
theorem d_Model_floor_46 : decode b_Model_floor 46 = .ok (.invokestatic 798, 3) := by decide +kernel
theorem d_Model_floor_49 : decode b_Model_floor 49 = .ok (.l2i, 1) := by decide +kernel
theorem d_Model_floor_50 : decode b_Model_floor 50 = .ok (.ireturn, 1) := by decide +kernel
theorem lk_Model_795 : Cond.methodLink "TurtleWorldModel" 795 ⟨"TurtleWorldModel", "root", "(J)J"⟩ ∈ tw_T := tw_i11 35 (by decide +kernel) (by decide +kernel)
theorem hd_Model_root : y_Model_root.cls ≠ "java/lang/invoke/MethodHandle" ∧ y_Model_root.cls ≠ "java/lang/invoke/VarHandle" ∧ (parseMethodDescriptor y_Model_root.desc).map (fun d => d.parameters.length) = some 1 := by decide +kernel
theorem st_Model_root : Cond.static ⟨"TurtleWorldModel", "root", "(J)J"⟩ ∈ tw_T := tw_i11 36 (by decide +kernel) (by decide +kernel)
theorem lk_Model_798 : Cond.methodLink "TurtleWorldModel" 798 ⟨"java/lang/Math", "floorDiv", "(JJ)J"⟩ ∈ tw_T := tw_i11 40 (by decide +kernel) (by decide +kernel)
theorem d_Model_isTrue_0 : decode b_Model_isTrue 0 = .ok (.aload_n 0, 1) := by decide +kernel
theorem d_Model_isTrue_1 : decode b_Model_isTrue 1 = .ok (.lload_n 1, 1) := by decide +kernel
theorem d_Model_isTrue_2 : decode b_Model_isTrue 2 = .ok (.invokestatic 64, 3) := by decide +kernel
theorem d_Model_isTrue_5 : decode b_Model_isTrue 5 = .ok (.ldc_w 574, 3) := by decide +kernel
theorem d_Model_isTrue_8 : decode b_Model_isTrue 8 = .ok (.invokevirtual 473, 3) := by decide +kernel
theorem d_Model_isTrue_11 : decode b_Model_isTrue 11 = .ok (.ireturn, 1) := by decide +kernel
theorem lk_Model_473 : Cond.methodLink "TurtleWorldModel" 473 ⟨"TurtleWorldModel", "isText", "(ILjava/lang/String;)Z"⟩ ∈ tw_T := tw_i10 55 (by decide +kernel) (by decide +kernel)
theorem hd_Model_isText : y_Model_isText.cls ≠ "java/lang/invoke/MethodHandle" ∧ y_Model_isText.cls ≠ "java/lang/invoke/VarHandle" ∧ (parseMethodDescriptor y_Model_isText.desc).map (fun d => d.parameters.length) = some 2 := by decide +kernel
theorem in_Model_isText : Cond.instanceMethod ⟨"TurtleWorldModel", "isText", "(ILjava/lang/String;)Z"⟩ ∈ tw_T := tw_i10 57 (by decide +kernel) (by decide +kernel)
theorem sel_Model_isText : Cond.selects "TurtleWorldModel" ⟨"TurtleWorldModel", "isText", "(ILjava/lang/String;)Z"⟩ ⟨"TurtleWorldModel", "isText", "(ILjava/lang/String;)Z"⟩ ∈ tw_T := tw_inS 95 (by decide +kernel) (by decide +kernel)
theorem d_Model_numbers_0 : decode b_Model_numbers 0 = .ok (.iload_n 1, 1) := by decide +kernel
theorem d_Model_numbers_1 : decode b_Model_numbers 1 = .ok (.bipush 22, 2) := by decide +kernel
theorem d_Model_numbers_3 : decode b_Model_numbers 3 = .ok (.if_icmp .eq 9, 3) := by decide +kernel
theorem d_Model_numbers_6 : decode b_Model_numbers 6 = .ok (.iload_n 1, 1) := by decide +kernel
theorem d_Model_numbers_7 : decode b_Model_numbers 7 = .ok (.bipush 23, 2) := by decide +kernel
theorem d_Model_numbers_9 : decode b_Model_numbers 9 = .ok (.if_icmp .ne 14, 3) := by decide +kernel
theorem d_Model_numbers_12 : decode b_Model_numbers 12 = .ok (.iload_n 3, 1) := by decide +kernel
theorem d_Model_numbers_13 : decode b_Model_numbers 13 = .ok (.ifCond .ne 10, 3) := by decide +kernel
theorem d_Model_numbers_16 : decode b_Model_numbers 16 = .ok (.aload_n 0, 1) := by decide +kernel
theorem d_Model_numbers_17 : decode b_Model_numbers 17 = .ok (.bipush 10, 2) := by decide +kernel
theorem d_Model_numbers_19 : decode b_Model_numbers 19 = .ok (.invokevirtual 596, 3) := by decide +kernel
theorem d_Model_numbers_22 : decode b_Model_numbers 22 = .ok (.lreturn, 1) := by decide +kernel
theorem d_Model_numbers_23 : decode b_Model_numbers 23 = .ok (.iload_n 1, 1) := by decide +kernel
theorem d_Model_numbers_24 : decode b_Model_numbers 24 = .ok (.tableswitch 134 19 26 #[48, 58, 68, 78, 87, 96, 104, 119], 48) := by decide +kernel
theorem d_Model_numbers_72 : decode b_Model_numbers 72 = .ok (.iload_n 2, 1) := by decide +kernel
theorem d_Model_numbers_73 : decode b_Model_numbers 73 = .ok (.i2l, 1) := by decide +kernel
theorem d_Model_numbers_74 : decode b_Model_numbers 74 = .ok (.iload_n 3, 1) := by decide +kernel
theorem d_Model_numbers_75 : decode b_Model_numbers 75 = .ok (.i2l, 1) := by decide +kernel
theorem d_Model_numbers_76 : decode b_Model_numbers 76 = .ok (.ladd, 1) := by decide +kernel
theorem d_Model_numbers_77 : decode b_Model_numbers 77 = .ok (.lstore 4, 2) := by decide +kernel
theorem d_Model_numbers_79 : decode b_Model_numbers 79 = .ok (.goto 150, 3) := by decide +kernel
theorem d_Model_numbers_82 : decode b_Model_numbers 82 = .ok (.iload_n 2, 1) := by decide +kernel
theorem d_Model_numbers_83 : decode b_Model_numbers 83 = .ok (.i2l, 1) := by decide +kernel
theorem d_Model_numbers_84 : decode b_Model_numbers 84 = .ok (.iload_n 3, 1) := by decide +kernel
theorem d_Model_numbers_85 : decode b_Model_numbers 85 = .ok (.i2l, 1) := by decide +kernel
theorem d_Model_numbers_86 : decode b_Model_numbers 86 = .ok (.lsub, 1) := by decide +kernel
theorem d_Model_numbers_87 : decode b_Model_numbers 87 = .ok (.lstore 4, 2) := by decide +kernel
theorem d_Model_numbers_89 : decode b_Model_numbers 89 = .ok (.goto 140, 3) := by decide +kernel
theorem d_Model_numbers_92 : decode b_Model_numbers 92 = .ok (.iload_n 2, 1) := by decide +kernel
theorem d_Model_numbers_93 : decode b_Model_numbers 93 = .ok (.i2l, 1) := by decide +kernel
theorem d_Model_numbers_94 : decode b_Model_numbers 94 = .ok (.iload_n 3, 1) := by decide +kernel
theorem d_Model_numbers_95 : decode b_Model_numbers 95 = .ok (.i2l, 1) := by decide +kernel
theorem d_Model_numbers_96 : decode b_Model_numbers 96 = .ok (.lmul, 1) := by decide +kernel
theorem d_Model_numbers_97 : decode b_Model_numbers 97 = .ok (.lstore 4, 2) := by decide +kernel
theorem d_Model_numbers_99 : decode b_Model_numbers 99 = .ok (.goto 130, 3) := by decide +kernel
theorem d_Model_numbers_102 : decode b_Model_numbers 102 = .ok (.iload_n 2, 1) := by decide +kernel
theorem d_Model_numbers_103 : decode b_Model_numbers 103 = .ok (.iload_n 3, 1) := by decide +kernel
theorem d_Model_numbers_104 : decode b_Model_numbers 104 = .ok (.idiv, 1) := by decide +kernel
theorem d_Model_numbers_105 : decode b_Model_numbers 105 = .ok (.i2l, 1) := by decide +kernel
theorem d_Model_numbers_106 : decode b_Model_numbers 106 = .ok (.lstore 4, 2) := by decide +kernel
theorem d_Model_numbers_108 : decode b_Model_numbers 108 = .ok (.goto 121, 3) := by decide +kernel
theorem d_Model_numbers_111 : decode b_Model_numbers 111 = .ok (.iload_n 2, 1) := by decide +kernel
theorem d_Model_numbers_112 : decode b_Model_numbers 112 = .ok (.iload_n 3, 1) := by decide +kernel
theorem d_Model_numbers_113 : decode b_Model_numbers 113 = .ok (.irem, 1) := by decide +kernel
theorem d_Model_numbers_114 : decode b_Model_numbers 114 = .ok (.i2l, 1) := by decide +kernel
theorem d_Model_numbers_115 : decode b_Model_numbers 115 = .ok (.lstore 4, 2) := by decide +kernel
theorem d_Model_numbers_117 : decode b_Model_numbers 117 = .ok (.goto 112, 3) := by decide +kernel
theorem d_Model_numbers_120 : decode b_Model_numbers 120 = .ok (.iload_n 2, 1) := by decide +kernel
theorem d_Model_numbers_121 : decode b_Model_numbers 121 = .ok (.ineg, 1) := by decide +kernel
theorem d_Model_numbers_122 : decode b_Model_numbers 122 = .ok (.i2l, 1) := by decide +kernel
theorem d_Model_numbers_123 : decode b_Model_numbers 123 = .ok (.lstore 4, 2) := by decide +kernel
theorem d_Model_numbers_125 : decode b_Model_numbers 125 = .ok (.goto 104, 3) := by decide +kernel
theorem d_Model_numbers_128 : decode b_Model_numbers 128 = .ok (.aload_n 0, 1) := by decide +kernel
theorem d_Model_numbers_129 : decode b_Model_numbers 129 = .ok (.iload_n 2, 1) := by decide +kernel
theorem d_Model_numbers_130 : decode b_Model_numbers 130 = .ok (.iload_n 3, 1) := by decide +kernel
theorem d_Model_numbers_131 : decode b_Model_numbers 131 = .ok (.if_icmp .ge 7, 3) := by decide +kernel
theorem d_Model_numbers_134 : decode b_Model_numbers 134 = .ok (.iconst 1, 1) := by decide +kernel
theorem d_Model_numbers_135 : decode b_Model_numbers 135 = .ok (.goto 4, 3) := by decide +kernel
theorem d_Model_numbers_138 : decode b_Model_numbers 138 = .ok (.iconst 0, 1) := by decide +kernel
theorem d_Model_numbers_139 : decode b_Model_numbers 139 = .ok (.invokevirtual 721, 3) := by decide +kernel
theorem d_Model_numbers_142 : decode b_Model_numbers 142 = .ok (.lreturn, 1) := by decide +kernel
theorem d_Model_numbers_143 : decode b_Model_numbers 143 = .ok (.aload_n 0, 1) := by decide +kernel
theorem d_Model_numbers_144 : decode b_Model_numbers 144 = .ok (.iload_n 2, 1) := by decide +kernel
theorem d_Model_numbers_145 : decode b_Model_numbers 145 = .ok (.iload_n 3, 1) := by decide +kernel
theorem d_Model_numbers_146 : decode b_Model_numbers 146 = .ok (.if_icmp .le 7, 3) := by decide +kernel
theorem d_Model_numbers_149 : decode b_Model_numbers 149 = .ok (.iconst 1, 1) := by decide +kernel
theorem d_Model_numbers_150 : decode b_Model_numbers 150 = .ok (.goto 4, 3) := by decide +kernel
theorem d_Model_numbers_153 : decode b_Model_numbers 153 = .ok (.iconst 0, 1) := by decide +kernel
theorem d_Model_numbers_154 : decode b_Model_numbers 154 = .ok (.invokevirtual 721, 3) := by decide +kernel
theorem d_Model_numbers_157 : decode b_Model_numbers 157 = .ok (.lreturn, 1) := by decide +kernel
theorem d_Model_numbers_158 : decode b_Model_numbers 158 = .ok (.iload_n 2, 1) := by decide +kernel
theorem d_Model_numbers_159 : decode b_Model_numbers 159 = .ok (.iconst 1, 1) := by decide +kernel
theorem d_Model_numbers_160 : decode b_Model_numbers 160 = .ok (.if_icmp .ge 9, 3) := by decide +kernel
theorem d_Model_numbers_163 : decode b_Model_numbers 163 = .ok (.aload_n 0, 1) := by decide +kernel
theorem d_Model_numbers_164 : decode b_Model_numbers 164 = .ok (.iconst 3, 1) := by decide +kernel
theorem d_Model_numbers_165 : decode b_Model_numbers 165 = .ok (.invokevirtual 596, 3) := by decide +kernel
theorem d_Model_numbers_168 : decode b_Model_numbers 168 = .ok (.lreturn, 1) := by decide +kernel
theorem d_Model_numbers_169 : decode b_Model_numbers 169 = .ok (.aload_n 0, 1) := by decide +kernel
theorem d_Model_numbers_170 : decode b_Model_numbers 170 = .ok (.dup, 1) := by decide +kernel
theorem d_Model_numbers_171 : decode b_Model_numbers 171 = .ok (.getfield 331, 3) := by decide +kernel
theorem d_Model_numbers_174 : decode b_Model_numbers 174 = .ok (.aload_n 0, 1) := by decide +kernel
theorem d_Model_numbers_175 : decode b_Model_numbers 175 = .ok (.getfield 331, 3) := by decide +kernel
theorem d_Model_numbers_178 : decode b_Model_numbers 178 = .ok (.bipush 13, 2) := by decide +kernel
theorem d_Model_numbers_180 : decode b_Model_numbers 180 = .ok (.ishl, 1) := by decide +kernel
theorem d_Model_numbers_181 : decode b_Model_numbers 181 = .ok (.ixor, 1) := by decide +kernel
theorem d_Model_numbers_182 : decode b_Model_numbers 182 = .ok (.putfield 331, 3) := by decide +kernel
theorem d_Model_numbers_185 : decode b_Model_numbers 185 = .ok (.aload_n 0, 1) := by decide +kernel
theorem d_Model_numbers_186 : decode b_Model_numbers 186 = .ok (.dup, 1) := by decide +kernel
theorem d_Model_numbers_187 : decode b_Model_numbers 187 = .ok (.getfield 331, 3) := by decide +kernel
theorem d_Model_numbers_190 : decode b_Model_numbers 190 = .ok (.aload_n 0, 1) := by decide +kernel
theorem d_Model_numbers_191 : decode b_Model_numbers 191 = .ok (.getfield 331, 3) := by decide +kernel
theorem d_Model_numbers_194 : decode b_Model_numbers 194 = .ok (.bipush 17, 2) := by decide +kernel
theorem d_Model_numbers_196 : decode b_Model_numbers 196 = .ok (.iushr, 1) := by decide +kernel
theorem d_Model_numbers_197 : decode b_Model_numbers 197 = .ok (.ixor, 1) := by decide +kernel
theorem d_Model_numbers_198 : decode b_Model_numbers 198 = .ok (.putfield 331, 3) := by decide +kernel
theorem d_Model_numbers_201 : decode b_Model_numbers 201 = .ok (.aload_n 0, 1) := by decide +kernel
theorem d_Model_numbers_202 : decode b_Model_numbers 202 = .ok (.dup, 1) := by decide +kernel
theorem d_Model_numbers_203 : decode b_Model_numbers 203 = .ok (.getfield 331, 3) := by decide +kernel
theorem d_Model_numbers_206 : decode b_Model_numbers 206 = .ok (.aload_n 0, 1) := by decide +kernel
theorem d_Model_numbers_207 : decode b_Model_numbers 207 = .ok (.getfield 331, 3) := by decide +kernel
theorem d_Model_numbers_210 : decode b_Model_numbers 210 = .ok (.iconst 5, 1) := by decide +kernel
theorem d_Model_numbers_211 : decode b_Model_numbers 211 = .ok (.ishl, 1) := by decide +kernel
theorem d_Model_numbers_212 : decode b_Model_numbers 212 = .ok (.ixor, 1) := by decide +kernel
theorem d_Model_numbers_213 : decode b_Model_numbers 213 = .ok (.putfield 331, 3) := by decide +kernel
theorem d_Model_numbers_216 : decode b_Model_numbers 216 = .ok (.aload_n 0, 1) := by decide +kernel
theorem d_Model_numbers_217 : decode b_Model_numbers 217 = .ok (.getfield 331, 3) := by decide +kernel
theorem d_Model_numbers_220 : decode b_Model_numbers 220 = .ok (.ldc_w 738, 3) := by decide +kernel
theorem d_Model_numbers_223 : decode b_Model_numbers 223 = .ok (.iand, 1) := by decide +kernel
theorem d_Model_numbers_224 : decode b_Model_numbers 224 = .ok (.iload_n 2, 1) := by decide +kernel
theorem d_Model_numbers_225 : decode b_Model_numbers 225 = .ok (.irem, 1) := by decide +kernel
theorem d_Model_numbers_226 : decode b_Model_numbers 226 = .ok (.i2l, 1) := by decide +kernel
theorem d_Model_numbers_227 : decode b_Model_numbers 227 = .ok (.lstore 4, 2) := by decide +kernel
theorem d_Model_numbers_229 : decode b_Model_numbers 229 = .ok (.lload 4, 2) := by decide +kernel
theorem d_Model_numbers_231 : decode b_Model_numbers 231 = .ok (.ldc2_w 144, 3) := by decide +kernel
theorem d_Model_numbers_234 : decode b_Model_numbers 234 = .ok (.lcmp, 1) := by decide +kernel
theorem d_Model_numbers_235 : decode b_Model_numbers 235 = .ok (.ifCond .gt 12, 3) := by decide +kernel
theorem d_Model_numbers_238 : decode b_Model_numbers 238 = .ok (.lload 4, 2) := by decide +kernel
theorem d_Model_numbers_240 : decode b_Model_numbers 240 = .ok (.ldc2_w 739, 3) := by decide +kernel
theorem d_Model_numbers_243 : decode b_Model_numbers 243 = .ok (.lcmp, 1) := by decide +kernel
theorem d_Model_numbers_244 : decode b_Model_numbers 244 = .ok (.ifCond .ge 12, 3) := by decide +kernel
theorem d_Model_numbers_247 : decode b_Model_numbers 247 = .ok (.aload_n 0, 1) := by decide +kernel
theorem d_Model_numbers_248 : decode b_Model_numbers 248 = .ok (.bipush 9, 2) := by decide +kernel
theorem d_Model_numbers_250 : decode b_Model_numbers 250 = .ok (.invokevirtual 596, 3) := by decide +kernel
theorem d_Model_numbers_253 : decode b_Model_numbers 253 = .ok (.goto 9, 3) := by decide +kernel
theorem d_Model_numbers_256 : decode b_Model_numbers 256 = .ok (.lload 4, 2) := by decide +kernel
theorem d_Model_numbers_258 : decode b_Model_numbers 258 = .ok (.l2i, 1) := by decide +kernel
theorem d_Model_numbers_259 : decode b_Model_numbers 259 = .ok (.invokestatic 451, 3) := by decide +kernel
theorem d_Model_numbers_262 : decode b_Model_numbers 262 = .ok (.lreturn, 1) := by decide +kernel
theorem lk_Model_739 : Cond.constantLong "TurtleWorldModel" 739 (-1000000000) ∈ tw_T := tw_i11 74 (by decide +kernel) (by decide +kernel)
theorem lk_Model_721 : Cond.methodLink "TurtleWorldModel" 721 ⟨"TurtleWorldModel", "truth", "(Z)J"⟩ ∈ tw_T := tw_i11 53 (by decide +kernel) (by decide +kernel)
theorem hd_Model_truth : y_Model_truth.cls ≠ "java/lang/invoke/MethodHandle" ∧ y_Model_truth.cls ≠ "java/lang/invoke/VarHandle" ∧ (parseMethodDescriptor y_Model_truth.desc).map (fun d => d.parameters.length) = some 1 := by decide +kernel
theorem in_Model_truth : Cond.instanceMethod ⟨"TurtleWorldModel", "truth", "(Z)J"⟩ ∈ tw_T := tw_i11 55 (by decide +kernel) (by decide +kernel)
theorem sel_Model_truth : Cond.selects "TurtleWorldModel" ⟨"TurtleWorldModel", "truth", "(Z)J"⟩ ⟨"TurtleWorldModel", "truth", "(Z)J"⟩ ∈ tw_T := tw_inS 137 (by decide +kernel) (by decide +kernel)
theorem lk_Model_738 : Cond.constant "TurtleWorldModel" 738 2147483647 ∈ tw_T := tw_i11 73 (by decide +kernel) (by decide +kernel)
theorem d_Model_sayNumber_0 : decode b_Model_sayNumber 0 = .ok (.iload_n 1, 1) := by decide +kernel
theorem d_Model_sayNumber_1 : decode b_Model_sayNumber 1 = .ok (.ifCond .ge 9, 3) := by decide +kernel
theorem d_Model_sayNumber_4 : decode b_Model_sayNumber 4 = .ok (.aload_n 0, 1) := by decide +kernel
theorem d_Model_sayNumber_5 : decode b_Model_sayNumber 5 = .ok (.bipush 45, 2) := by decide +kernel
theorem d_Model_sayNumber_7 : decode b_Model_sayNumber 7 = .ok (.invokevirtual 111, 3) := by decide +kernel
theorem d_Model_sayNumber_10 : decode b_Model_sayNumber 10 = .ok (.iload_n 1, 1) := by decide +kernel
theorem d_Model_sayNumber_11 : decode b_Model_sayNumber 11 = .ok (.invokestatic 115, 3) := by decide +kernel
theorem d_Model_sayNumber_14 : decode b_Model_sayNumber 14 = .ok (.istore_n 2, 1) := by decide +kernel
theorem d_Model_sayNumber_15 : decode b_Model_sayNumber 15 = .ok (.iconst 1, 1) := by decide +kernel
theorem d_Model_sayNumber_16 : decode b_Model_sayNumber 16 = .ok (.istore_n 3, 1) := by decide +kernel
theorem d_Model_sayNumber_17 : decode b_Model_sayNumber 17 = .ok (.iload_n 2, 1) := by decide +kernel
theorem d_Model_sayNumber_18 : decode b_Model_sayNumber 18 = .ok (.iload_n 3, 1) := by decide +kernel
theorem d_Model_sayNumber_19 : decode b_Model_sayNumber 19 = .ok (.idiv, 1) := by decide +kernel
theorem d_Model_sayNumber_20 : decode b_Model_sayNumber 20 = .ok (.bipush 9, 2) := by decide +kernel
theorem d_Model_sayNumber_22 : decode b_Model_sayNumber 22 = .ok (.if_icmp .le 11, 3) := by decide +kernel
theorem d_Model_sayNumber_25 : decode b_Model_sayNumber 25 = .ok (.iload_n 3, 1) := by decide +kernel
theorem d_Model_sayNumber_26 : decode b_Model_sayNumber 26 = .ok (.bipush 10, 2) := by decide +kernel
theorem d_Model_sayNumber_28 : decode b_Model_sayNumber 28 = .ok (.imul, 1) := by decide +kernel
theorem d_Model_sayNumber_29 : decode b_Model_sayNumber 29 = .ok (.istore_n 3, 1) := by decide +kernel
theorem d_Model_sayNumber_30 : decode b_Model_sayNumber 30 = .ok (.goto (-13), 3) := by decide +kernel
theorem d_Model_sayNumber_33 : decode b_Model_sayNumber 33 = .ok (.iload_n 3, 1) := by decide +kernel
theorem d_Model_sayNumber_34 : decode b_Model_sayNumber 34 = .ok (.ifCond .le 24, 3) := by decide +kernel
theorem d_Model_sayNumber_37 : decode b_Model_sayNumber 37 = .ok (.aload_n 0, 1) := by decide +kernel
theorem d_Model_sayNumber_38 : decode b_Model_sayNumber 38 = .ok (.bipush 48, 2) := by decide +kernel
theorem d_Model_sayNumber_40 : decode b_Model_sayNumber 40 = .ok (.iload_n 2, 1) := by decide +kernel
theorem d_Model_sayNumber_41 : decode b_Model_sayNumber 41 = .ok (.iload_n 3, 1) := by decide +kernel
theorem d_Model_sayNumber_42 : decode b_Model_sayNumber 42 = .ok (.idiv, 1) := by decide +kernel
theorem d_Model_sayNumber_43 : decode b_Model_sayNumber 43 = .ok (.bipush 10, 2) := by decide +kernel
theorem d_Model_sayNumber_45 : decode b_Model_sayNumber 45 = .ok (.irem, 1) := by decide +kernel
theorem d_Model_sayNumber_46 : decode b_Model_sayNumber 46 = .ok (.iadd, 1) := by decide +kernel
theorem d_Model_sayNumber_47 : decode b_Model_sayNumber 47 = .ok (.invokevirtual 111, 3) := by decide +kernel
theorem d_Model_sayNumber_50 : decode b_Model_sayNumber 50 = .ok (.iload_n 3, 1) := by decide +kernel
theorem d_Model_sayNumber_51 : decode b_Model_sayNumber 51 = .ok (.bipush 10, 2) := by decide +kernel
theorem d_Model_sayNumber_53 : decode b_Model_sayNumber 53 = .ok (.idiv, 1) := by decide +kernel
theorem d_Model_sayNumber_54 : decode b_Model_sayNumber 54 = .ok (.istore_n 3, 1) := by decide +kernel
theorem d_Model_sayNumber_55 : decode b_Model_sayNumber 55 = .ok (.goto (-22), 3) := by decide +kernel
theorem d_Model_sayNumber_58 : decode b_Model_sayNumber 58 = .ok (.return_, 1) := by decide +kernel
theorem lk_Model_115 : Cond.methodLink "TurtleWorldModel" 115 ⟨"java/lang/Math", "abs", "(I)I"⟩ ∈ tw_T := tw_i11 99 (by decide +kernel) (by decide +kernel)
theorem hd_Math_abs : y_Math_abs.cls ≠ "java/lang/invoke/MethodHandle" ∧ y_Math_abs.cls ≠ "java/lang/invoke/VarHandle" ∧ (parseMethodDescriptor y_Math_abs.desc).map (fun d => d.parameters.length) = some 1 := by decide +kernel
theorem st_Math_abs : Cond.static ⟨"java/lang/Math", "abs", "(I)I"⟩ ∈ tw_T := tw_i11 100 (by decide +kernel) (by decide +kernel)
theorem lk_Model_111 : Cond.methodLink "TurtleWorldModel" 111 ⟨"TurtleWorldModel", "say", "(I)V"⟩ ∈ tw_T := tw_i11 95 (by decide +kernel) (by decide +kernel)
theorem hd_Model_say : y_Model_say.cls ≠ "java/lang/invoke/MethodHandle" ∧ y_Model_say.cls ≠ "java/lang/invoke/VarHandle" ∧ (parseMethodDescriptor y_Model_say.desc).map (fun d => d.parameters.length) = some 1 := by decide +kernel
theorem in_Model_say : Cond.instanceMethod ⟨"TurtleWorldModel", "say", "(I)V"⟩ ∈ tw_T := tw_i11 97 (by decide +kernel) (by decide +kernel)
theorem sel_Model_say : Cond.selects "TurtleWorldModel" ⟨"TurtleWorldModel", "say", "(I)V"⟩ ⟨"TurtleWorldModel", "say", "(I)V"⟩ ∈ tw_T := tw_inS 147 (by decide +kernel) (by decide +kernel)
theorem d_Model_putBack_0 : decode b_Model_putBack 0 = .ok (.aload_n 0, 1) := by decide +kernel
theorem d_Model_putBack_1 : decode b_Model_putBack 1 = .ok (.getfield 228, 3) := by decide +kernel
theorem d_Model_putBack_4 : decode b_Model_putBack 4 = .ok (.iconst 0, 1) := by decide +kernel
theorem d_Model_putBack_5 : decode b_Model_putBack 5 = .ok (.aload_n 0, 1) := by decide +kernel
theorem d_Model_putBack_6 : decode b_Model_putBack 6 = .ok (.getfield 183, 3) := by decide +kernel
theorem d_Model_putBack_9 : decode b_Model_putBack 9 = .ok (.iconst 0, 1) := by decide +kernel
theorem d_Model_putBack_10 : decode b_Model_putBack 10 = .ok (.bipush 40, 2) := by decide +kernel
theorem d_Model_putBack_12 : decode b_Model_putBack 12 = .ok (.invokestatic 334, 3) := by decide +kernel
theorem d_Model_putBack_15 : decode b_Model_putBack 15 = .ok (.aload_n 0, 1) := by decide +kernel
theorem d_Model_putBack_16 : decode b_Model_putBack 16 = .ok (.getfield 231, 3) := by decide +kernel
theorem d_Model_putBack_19 : decode b_Model_putBack 19 = .ok (.iconst 0, 1) := by decide +kernel
theorem d_Model_putBack_20 : decode b_Model_putBack 20 = .ok (.aload_n 0, 1) := by decide +kernel
theorem d_Model_putBack_21 : decode b_Model_putBack 21 = .ok (.getfield 186, 3) := by decide +kernel
theorem d_Model_putBack_24 : decode b_Model_putBack 24 = .ok (.iconst 0, 1) := by decide +kernel
theorem d_Model_putBack_25 : decode b_Model_putBack 25 = .ok (.bipush 40, 2) := by decide +kernel
theorem d_Model_putBack_27 : decode b_Model_putBack 27 = .ok (.invokestatic 334, 3) := by decide +kernel
theorem d_Model_putBack_30 : decode b_Model_putBack 30 = .ok (.aload_n 0, 1) := by decide +kernel
theorem d_Model_putBack_31 : decode b_Model_putBack 31 = .ok (.getfield 234, 3) := by decide +kernel
theorem d_Model_putBack_34 : decode b_Model_putBack 34 = .ok (.iconst 0, 1) := by decide +kernel
theorem d_Model_putBack_35 : decode b_Model_putBack 35 = .ok (.aload_n 0, 1) := by decide +kernel
theorem d_Model_putBack_36 : decode b_Model_putBack 36 = .ok (.getfield 189, 3) := by decide +kernel
theorem d_Model_putBack_39 : decode b_Model_putBack 39 = .ok (.iconst 0, 1) := by decide +kernel
theorem d_Model_putBack_40 : decode b_Model_putBack 40 = .ok (.sipush 200, 3) := by decide +kernel
theorem d_Model_putBack_43 : decode b_Model_putBack 43 = .ok (.invokestatic 334, 3) := by decide +kernel
theorem d_Model_putBack_46 : decode b_Model_putBack 46 = .ok (.aload_n 0, 1) := by decide +kernel
theorem d_Model_putBack_47 : decode b_Model_putBack 47 = .ok (.getfield 246, 3) := by decide +kernel
theorem d_Model_putBack_50 : decode b_Model_putBack 50 = .ok (.iconst 0, 1) := by decide +kernel
theorem d_Model_putBack_51 : decode b_Model_putBack 51 = .ok (.aload_n 0, 1) := by decide +kernel
theorem d_Model_putBack_52 : decode b_Model_putBack 52 = .ok (.getfield 192, 3) := by decide +kernel
theorem d_Model_putBack_55 : decode b_Model_putBack 55 = .ok (.iconst 0, 1) := by decide +kernel
theorem d_Model_putBack_56 : decode b_Model_putBack 56 = .ok (.bipush 40, 2) := by decide +kernel
theorem d_Model_putBack_58 : decode b_Model_putBack 58 = .ok (.invokestatic 334, 3) := by decide +kernel
theorem d_Model_putBack_61 : decode b_Model_putBack 61 = .ok (.aload_n 0, 1) := by decide +kernel
theorem d_Model_putBack_62 : decode b_Model_putBack 62 = .ok (.getfield 237, 3) := by decide +kernel
theorem d_Model_putBack_65 : decode b_Model_putBack 65 = .ok (.iconst 0, 1) := by decide +kernel
theorem d_Model_putBack_66 : decode b_Model_putBack 66 = .ok (.aload_n 0, 1) := by decide +kernel
theorem d_Model_putBack_67 : decode b_Model_putBack 67 = .ok (.getfield 195, 3) := by decide +kernel
theorem d_Model_putBack_70 : decode b_Model_putBack 70 = .ok (.iconst 0, 1) := by decide +kernel
theorem d_Model_putBack_71 : decode b_Model_putBack 71 = .ok (.bipush 64, 2) := by decide +kernel
theorem d_Model_putBack_73 : decode b_Model_putBack 73 = .ok (.invokestatic 334, 3) := by decide +kernel
theorem d_Model_putBack_76 : decode b_Model_putBack 76 = .ok (.aload_n 0, 1) := by decide +kernel
theorem d_Model_putBack_77 : decode b_Model_putBack 77 = .ok (.getfield 249, 3) := by decide +kernel
theorem d_Model_putBack_80 : decode b_Model_putBack 80 = .ok (.iconst 0, 1) := by decide +kernel
theorem d_Model_putBack_81 : decode b_Model_putBack 81 = .ok (.aload_n 0, 1) := by decide +kernel
theorem d_Model_putBack_82 : decode b_Model_putBack 82 = .ok (.getfield 198, 3) := by decide +kernel
theorem d_Model_putBack_85 : decode b_Model_putBack 85 = .ok (.iconst 0, 1) := by decide +kernel
theorem d_Model_putBack_86 : decode b_Model_putBack 86 = .ok (.bipush 64, 2) := by decide +kernel
theorem d_Model_putBack_88 : decode b_Model_putBack 88 = .ok (.invokestatic 334, 3) := by decide +kernel
theorem d_Model_putBack_91 : decode b_Model_putBack 91 = .ok (.iconst 0, 1) := by decide +kernel
theorem d_Model_putBack_92 : decode b_Model_putBack 92 = .ok (.istore_n 1, 1) := by decide +kernel
theorem d_Model_putBack_93 : decode b_Model_putBack 93 = .ok (.iload_n 1, 1) := by decide +kernel
theorem d_Model_putBack_94 : decode b_Model_putBack 94 = .ok (.bipush 7, 2) := by decide +kernel
theorem d_Model_putBack_96 : decode b_Model_putBack 96 = .ok (.if_icmp .ge 28, 3) := by decide +kernel
theorem d_Model_putBack_99 : decode b_Model_putBack 99 = .ok (.aload_n 0, 1) := by decide +kernel
theorem d_Model_putBack_100 : decode b_Model_putBack 100 = .ok (.getfield 240, 3) := by decide +kernel
theorem d_Model_putBack_103 : decode b_Model_putBack 103 = .ok (.bipush 8, 2) := by decide +kernel
theorem d_Model_putBack_105 : decode b_Model_putBack 105 = .ok (.iload_n 1, 1) := by decide +kernel
theorem d_Model_putBack_106 : decode b_Model_putBack 106 = .ok (.imul, 1) := by decide +kernel
theorem d_Model_putBack_107 : decode b_Model_putBack 107 = .ok (.aload_n 0, 1) := by decide +kernel
theorem d_Model_putBack_108 : decode b_Model_putBack 108 = .ok (.iload_n 1, 1) := by decide +kernel
theorem d_Model_putBack_109 : decode b_Model_putBack 109 = .ok (.invokevirtual 340, 3) := by decide +kernel
theorem d_Model_putBack_112 : decode b_Model_putBack 112 = .ok (.iconst 0, 1) := by decide +kernel
theorem d_Model_putBack_113 : decode b_Model_putBack 113 = .ok (.bipush 8, 2) := by decide +kernel
theorem d_Model_putBack_115 : decode b_Model_putBack 115 = .ok (.invokestatic 334, 3) := by decide +kernel
theorem d_Model_putBack_118 : decode b_Model_putBack 118 = .ok (.iinc 1 1, 3) := by decide +kernel
theorem d_Model_putBack_121 : decode b_Model_putBack 121 = .ok (.goto (-28), 3) := by decide +kernel
theorem d_Model_putBack_124 : decode b_Model_putBack 124 = .ok (.aload_n 0, 1) := by decide +kernel
theorem d_Model_putBack_125 : decode b_Model_putBack 125 = .ok (.getfield 243, 3) := by decide +kernel
theorem d_Model_putBack_128 : decode b_Model_putBack 128 = .ok (.iconst 0, 1) := by decide +kernel
theorem d_Model_putBack_129 : decode b_Model_putBack 129 = .ok (.aload_n 0, 1) := by decide +kernel
theorem d_Model_putBack_130 : decode b_Model_putBack 130 = .ok (.getfield 222, 3) := by decide +kernel
theorem d_Model_putBack_133 : decode b_Model_putBack 133 = .ok (.iconst 0, 1) := by decide +kernel
theorem d_Model_putBack_134 : decode b_Model_putBack 134 = .ok (.sipush 4096, 3) := by decide +kernel
theorem d_Model_putBack_137 : decode b_Model_putBack 137 = .ok (.invokestatic 334, 3) := by decide +kernel
theorem d_Model_putBack_140 : decode b_Model_putBack 140 = .ok (.aload_n 0, 1) := by decide +kernel
theorem d_Model_putBack_141 : decode b_Model_putBack 141 = .ok (.getfield 252, 3) := by decide +kernel
theorem d_Model_putBack_144 : decode b_Model_putBack 144 = .ok (.iconst 0, 1) := by decide +kernel
theorem d_Model_putBack_145 : decode b_Model_putBack 145 = .ok (.aload_n 0, 1) := by decide +kernel
theorem d_Model_putBack_146 : decode b_Model_putBack 146 = .ok (.getfield 225, 3) := by decide +kernel
theorem d_Model_putBack_149 : decode b_Model_putBack 149 = .ok (.iconst 0, 1) := by decide +kernel
theorem d_Model_putBack_150 : decode b_Model_putBack 150 = .ok (.sipush 2000, 3) := by decide +kernel
theorem d_Model_putBack_153 : decode b_Model_putBack 153 = .ok (.invokestatic 334, 3) := by decide +kernel
theorem d_Model_putBack_156 : decode b_Model_putBack 156 = .ok (.aload_n 0, 1) := by decide +kernel
theorem d_Model_putBack_157 : decode b_Model_putBack 157 = .ok (.aload_n 0, 1) := by decide +kernel
theorem d_Model_putBack_158 : decode b_Model_putBack 158 = .ok (.getfield 347, 3) := by decide +kernel
theorem d_Model_putBack_161 : decode b_Model_putBack 161 = .ok (.putfield 344, 3) := by decide +kernel
theorem d_Model_putBack_164 : decode b_Model_putBack 164 = .ok (.aload_n 0, 1) := by decide +kernel
theorem d_Model_putBack_165 : decode b_Model_putBack 165 = .ok (.aload_n 0, 1) := by decide +kernel
theorem d_Model_putBack_166 : decode b_Model_putBack 166 = .ok (.getfield 353, 3) := by decide +kernel
theorem d_Model_putBack_169 : decode b_Model_putBack 169 = .ok (.putfield 350, 3) := by decide +kernel
theorem d_Model_putBack_172 : decode b_Model_putBack 172 = .ok (.aload_n 0, 1) := by decide +kernel
theorem d_Model_putBack_173 : decode b_Model_putBack 173 = .ok (.aload_n 0, 1) := by decide +kernel
theorem d_Model_putBack_174 : decode b_Model_putBack 174 = .ok (.getfield 360, 3) := by decide +kernel
theorem d_Model_putBack_177 : decode b_Model_putBack 177 = .ok (.putfield 356, 3) := by decide +kernel
theorem d_Model_putBack_180 : decode b_Model_putBack 180 = .ok (.aload_n 0, 1) := by decide +kernel
theorem d_Model_putBack_181 : decode b_Model_putBack 181 = .ok (.aload_n 0, 1) := by decide +kernel
theorem d_Model_putBack_182 : decode b_Model_putBack 182 = .ok (.getfield 363, 3) := by decide +kernel
theorem d_Model_putBack_185 : decode b_Model_putBack 185 = .ok (.putfield 331, 3) := by decide +kernel
theorem d_Model_putBack_188 : decode b_Model_putBack 188 = .ok (.aload_n 0, 1) := by decide +kernel
theorem d_Model_putBack_189 : decode b_Model_putBack 189 = .ok (.aload_n 0, 1) := by decide +kernel
theorem d_Model_putBack_190 : decode b_Model_putBack 190 = .ok (.getfield 369, 3) := by decide +kernel
theorem d_Model_putBack_193 : decode b_Model_putBack 193 = .ok (.putfield 366, 3) := by decide +kernel
theorem d_Model_putBack_196 : decode b_Model_putBack 196 = .ok (.aload_n 0, 1) := by decide +kernel
theorem d_Model_putBack_197 : decode b_Model_putBack 197 = .ok (.aload_n 0, 1) := by decide +kernel
theorem d_Model_putBack_198 : decode b_Model_putBack 198 = .ok (.getfield 375, 3) := by decide +kernel
theorem d_Model_putBack_201 : decode b_Model_putBack 201 = .ok (.putfield 372, 3) := by decide +kernel
theorem d_Model_putBack_204 : decode b_Model_putBack 204 = .ok (.aload_n 0, 1) := by decide +kernel
theorem d_Model_putBack_205 : decode b_Model_putBack 205 = .ok (.aload_n 0, 1) := by decide +kernel
theorem d_Model_putBack_206 : decode b_Model_putBack 206 = .ok (.getfield 378, 3) := by decide +kernel
theorem d_Model_putBack_209 : decode b_Model_putBack 209 = .ok (.putfield 19, 3) := by decide +kernel
theorem d_Model_putBack_212 : decode b_Model_putBack 212 = .ok (.aload_n 0, 1) := by decide +kernel
theorem d_Model_putBack_213 : decode b_Model_putBack 213 = .ok (.aload_n 0, 1) := by decide +kernel
theorem d_Model_putBack_214 : decode b_Model_putBack 214 = .ok (.getfield 381, 3) := by decide +kernel
theorem d_Model_putBack_217 : decode b_Model_putBack 217 = .ok (.putfield 32, 3) := by decide +kernel
theorem d_Model_putBack_220 : decode b_Model_putBack 220 = .ok (.aload_n 0, 1) := by decide +kernel
theorem d_Model_putBack_221 : decode b_Model_putBack 221 = .ok (.aload_n 0, 1) := by decide +kernel
theorem d_Model_putBack_222 : decode b_Model_putBack 222 = .ok (.getfield 384, 3) := by decide +kernel
theorem d_Model_putBack_225 : decode b_Model_putBack 225 = .ok (.putfield 44, 3) := by decide +kernel
theorem d_Model_putBack_228 : decode b_Model_putBack 228 = .ok (.iconst 0, 1) := by decide +kernel
theorem d_Model_putBack_229 : decode b_Model_putBack 229 = .ok (.istore_n 1, 1) := by decide +kernel
theorem d_Model_putBack_230 : decode b_Model_putBack 230 = .ok (.iload_n 1, 1) := by decide +kernel
theorem d_Model_putBack_231 : decode b_Model_putBack 231 = .ok (.aload_n 0, 1) := by decide +kernel
theorem d_Model_putBack_232 : decode b_Model_putBack 232 = .ok (.getfield 19, 3) := by decide +kernel
theorem d_Model_putBack_235 : decode b_Model_putBack 235 = .ok (.if_icmp .ge 18, 3) := by decide +kernel
theorem d_Model_putBack_238 : decode b_Model_putBack 238 = .ok (.aload_n 0, 1) := by decide +kernel
theorem d_Model_putBack_239 : decode b_Model_putBack 239 = .ok (.getfield 28, 3) := by decide +kernel
theorem d_Model_putBack_242 : decode b_Model_putBack 242 = .ok (.iload_n 1, 1) := by decide +kernel
theorem d_Model_putBack_243 : decode b_Model_putBack 243 = .ok (.ldc2_w 7, 3) := by decide +kernel
theorem d_Model_putBack_246 : decode b_Model_putBack 246 = .ok (.lastore, 1) := by decide +kernel
theorem d_Model_putBack_247 : decode b_Model_putBack 247 = .ok (.iinc 1 1, 3) := by decide +kernel
theorem d_Model_putBack_250 : decode b_Model_putBack 250 = .ok (.goto (-20), 3) := by decide +kernel
theorem d_Model_putBack_253 : decode b_Model_putBack 253 = .ok (.return_, 1) := by decide +kernel
theorem hd_Model_ended : y_Model_ended.cls ≠ "java/lang/invoke/MethodHandle" ∧ y_Model_ended.cls ≠ "java/lang/invoke/VarHandle" ∧ (parseMethodDescriptor y_Model_ended.desc).map (fun d => d.parameters.length) = some 0 := by decide +kernel
theorem hd_Model_isTurtle : y_Model_isTurtle.cls ≠ "java/lang/invoke/MethodHandle" ∧ y_Model_isTurtle.cls ≠ "java/lang/invoke/VarHandle" ∧ (parseMethodDescriptor y_Model_isTurtle.desc).map (fun d => d.parameters.length) = some 1 := by decide +kernel
theorem hd_Model_sign : y_Model_sign.cls ≠ "java/lang/invoke/MethodHandle" ∧ y_Model_sign.cls ≠ "java/lang/invoke/VarHandle" ∧ (parseMethodDescriptor y_Model_sign.desc).map (fun d => d.parameters.length) = some 2 := by decide +kernel
def m_Model_found_b83 (n : Nat) (i : Nat → Int32) (j : Nat → Int64) (a : Nat → Nat → Int32) (b : Nat → Nat → Int64) : Nat → Int32 → Int32 → Int32 → Option (Int32)
  | 0, _, _, _ => none
  | f + 1, v1, v2, v3 => if ((i 36)) ≤ v3 then some ((-1)) else ck v3 64 (ck ((a 34 v3.toNatClampNeg)) 120000 (ck v3 64 (ck ((a 34 v3.toNatClampNeg)) 120000 (ob0 (m_Model_sameLetters n i j a b (a 3 (a 34 v3.toNatClampNeg).toNatClampNeg) (a 4 (a 34 v3.toNatClampNeg).toNatClampNeg) v1 v2) (fun r_7 => if r_7 = ((0 : Int32)) then ob1 (v3 + 1 : Int32) (fun x_9 => m_Model_found_b83 n i j a b f v1 v2 x_9) else some (10000 + v3))))))
set_option maxHeartbeats 4000000 in
set_option maxRecDepth 100000 in
theorem lb_Model_found_83 (l : Launch) (dC : Nat → ClassId) (dI : Nat → Nat → Nat) (cI cJ cB : ClassId) (adK adV adA : Nat → Nat) (h : Nat) (v : Nat → Nat) (n : Nat) {p : Program} {e : Env} {s : State} {m : MethodId} {args : Array Value} {below : List Frame} {meth : Method} {c : Code} {A : Nat → Prop} (hx : p.tables.exec = Jvm.exec) (hb : c.code = b_Model_found) (hml : c.maxLocals = 5) (hown : s.vm.findClass R_Model = some m.cls) (hts : ∀ w ∈ w_Model_found, w.before args s = true) (hK : va_K (dC, dI) classes [(cI, .int), (cJ, .long), (cB, .byte)] s) (hE : tw_E adK adV adA A s s.heap) (hA : ∀ q : Nat, s.heap.size ≤ q → A q) (hr : meth.sig.returnType = (some .int)) (hlocks : meth.locks = false) {i : Nat → Int32} {j : Nat → Int64} {a : Nat → Nat → Int32} {b : Nat → Nat → Int64} {r2 : Int32} : ∀ (f : Nat) (v1 : Int32) (v2 : Int32) (v3 : Int32), m_Model_found_b83 n i j a b f v1 v2 v3 = some r2 → ∀ (H : Heap) (locs : List Loc) (ls : Array Slot), va_P (dC, dI) classes (MW cI cJ cB h v i j a b) H → va_S A s.heap H locs → lv_has ls 5 [(0, .ref h), (1, .int v1), (2, .int v2), (3, .int v3)] → W p l e ({ frames := 1, cells := 0, slots := 0, locals := 25 } : Room) s m args below meth c H locs 0 0 (MQ below (va_Qi (xR r2) xT A) args s 0 0 A) (F0 m 83 ls []) := by
  have htt : ∀ w ∈ tw_T, w.before _ s = true := fun w h => hts w (List.mem_cons_of_mem _ h)
  intro f
  induction f with
  | zero =>
    intro v1 v2 v3 hm
    rw [m_Model_found_b83] at hm
    cases hm
  | succ f ih =>
    intro v1 v2 v3 hm H locs ls hP hS hl
    rw [m_Model_found_b83] at hm
    refine lv_iload_n hx hb d_Model_found_83 rfl (lv_at hl 3 rfl) ?_
    refine lv_aload_n hx hb d_Model_found_84 rfl (lv_at hl 0 rfl) ?_
    refine va_get (D := (dC, dI)) (ci := 12) (v := .int (i 36)) (C := R_Model) (T := F_Model) (N := 127) hx hb htt iw_Model hown hK hP 0 yo_12 rfl 36 (Nat.le_of_ble_eq_true rfl) (htt _ lk_Model_350) (fun _ h9 => h9) yg_36 d_Model_found_85 ?_
    refine lv_icmp_ge (tgt := 134) hx hb d_Model_found_88 (by decide) (fun c_1 => ?_) (fun c_1 => ?_)
    · replace hm := if_t c_1 hm
      refine lv_iconst (v := -1) hx hb d_Model_found_134 (by decide) ?_
      have e3 := re1 hm
      exact W.iret hx hb hr (fun t9 ht hW => ⟨⟨_, (), rfl, e3.symm, trivial⟩, hS.F ht⟩) hS.2.2 d_Model_found_135
    · replace hm := if_f c_1 hm
      refine lv_aload_n hx hb d_Model_found_91 rfl (lv_at hl 0 rfl) ?_
      refine lv_aload_n hx hb d_Model_found_92 rfl (lv_at hl 0 rfl) ?_
      refine va_get (D := (dC, dI)) (ci := 12) (v := .ref ((v 3))) (C := R_Model) (T := F_Model) (N := 127) hx hb htt iw_Model hown hK hP 0 yo_12 rfl 3 (Nat.le_of_ble_eq_true rfl) (htt _ lk_Model_15) (fun _ h9 => h9) yg_3 d_Model_found_93 ?_
      refine lv_aload_n hx hb d_Model_found_96 rfl (lv_at hl 0 rfl) ?_
      refine va_get (D := (dC, dI)) (ci := 12) (v := .ref ((v 34))) (C := R_Model) (T := F_Model) (N := 127) hx hb htt iw_Model hown hK hP 0 yo_12 rfl 34 (Nat.le_of_ble_eq_true rfl) (htt _ lk_Model_195) (fun _ h9 => h9) yg_34 d_Model_found_97 ?_
      refine lv_iload_n hx hb d_Model_found_100 rfl (lv_at hl 3 rfl) ?_
      obtain ⟨h_2, hm⟩ := ck_some hm
      refine va_iald hx hb hK hP 27 0 ya_34 rfl h_2 d_Model_found_101 ?_
      obtain ⟨h_3, hm⟩ := ck_some hm
      refine va_iald hx hb hK hP 3 0 ya_3 rfl h_3 d_Model_found_102 ?_
      refine lv_aload_n hx hb d_Model_found_103 rfl (lv_at hl 0 rfl) ?_
      refine va_get (D := (dC, dI)) (ci := 12) (v := .ref ((v 4))) (C := R_Model) (T := F_Model) (N := 127) hx hb htt iw_Model hown hK hP 0 yo_12 rfl 4 (Nat.le_of_ble_eq_true rfl) (htt _ lk_Model_22) (fun _ h9 => h9) yg_4 d_Model_found_104 ?_
      refine lv_aload_n hx hb d_Model_found_107 rfl (lv_at hl 0 rfl) ?_
      refine va_get (D := (dC, dI)) (ci := 12) (v := .ref ((v 34))) (C := R_Model) (T := F_Model) (N := 127) hx hb htt iw_Model hown hK hP 0 yo_12 rfl 34 (Nat.le_of_ble_eq_true rfl) (htt _ lk_Model_195) (fun _ h9 => h9) yg_34 d_Model_found_108 ?_
      refine lv_iload_n hx hb d_Model_found_111 rfl (lv_at hl 3 rfl) ?_
      obtain ⟨h_4, hm⟩ := ck_some hm
      refine va_iald hx hb hK hP 27 0 ya_34 rfl h_4 d_Model_found_112 ?_
      obtain ⟨h_5, hm⟩ := ck_some hm
      refine va_iald hx hb hK hP 4 0 ya_4 rfl h_5 d_Model_found_113 ?_
      refine lv_iload_n hx hb d_Model_found_114 rfl (lv_at hl 1 rfl) ?_
      refine lv_iload_n hx hb d_Model_found_115 rfl (lv_at hl 2 rfl) ?_
      obtain ⟨r_7, h_6, hm⟩ := ob0_some hm
      have hFc := x_free0 hS hA
      refine va_calli (va_runV (As := [.int (a 3 (a 34 v3.toNatClampNeg).toNatClampNeg), .int (a 4 (a 34 v3.toNatClampNeg).toNatClampNeg), .int v1, .int v2]) (rest := []) ⟨hx, hb, hml, hown, hts⟩ (x_Model_sameLetters l dC dI cI cJ cB adK adV adA h v H.size n h_6) (cwV 4 hts (tw_GV tw_cons cw_Model_sameLetters lk_Model_71 in_Model_sameLetters sel_Model_sameLetters ini_Model) rfl rfl rfl ⟨rfl, hd_Model_sameLetters⟩ ⟨Nat.le_of_ble_eq_true rfl, Nat.le_of_ble_eq_true rfl⟩) (ypVr hK hP hS hE hFc yo_12 rfl) rfl rfl hl.1 rfl (lv_room (Nat.le_of_ble_eq_true rfl)) d_Model_found_116 ⟨Nat.le_of_ble_eq_true rfl, Nat.le_of_ble_eq_true rfl⟩) hS (fun q _ h => hFc q h) hFc (fun r9 u9 t9 H locs ht hvm e9 hB hz1 hk1 hS => ?_)
      have e9 : r_7 = r9 := e9
      subst e9
      replace hP := x_keep hP hk1
      clear hFc hk1 hz1 hvm hB ht
      refine lv_if_eq (tgt := 128) hx hb d_Model_found_119 (by decide) (fun c_8 => ?_) (fun c_8 => ?_)
      · replace hm := if_t c_8 hm
        obtain ⟨x_9, ex_9⟩ : ∃ y9 : Int32, y9 = v3 + 1 := ⟨_, rfl⟩
        replace hm := ob1_at ex_9 hm
        refine lv_iinc (v := x_9) (lv' := [(3, .int x_9), (0, .ref h), (1, .int v1), (2, .int v2)]) hx hb d_Model_found_128 hl (k := 3) rfl (by rw [ex_9]; rfl) (by decide) rfl (fun ls hl => ?_)
        refine lv_goto (tgt := 83) hx hb d_Model_found_131 (by decide) ?_
        exact ih _ _ _ hm _ _ _ hP hS (lv_sub hl [1, 2, 3, 0] rfl)
      · replace hm := if_f c_8 hm
        refine lv_sipush (v := 10000) hx hb d_Model_found_122 (by decide) ?_
        refine lv_iload_n hx hb d_Model_found_125 rfl (lv_at hl 3 rfl) ?_
        refine lv_iadd hx hb d_Model_found_126 ?_
        have e3 := re1 hm
        exact W.iret hx hb hr (fun t9 ht hW => ⟨⟨_, (), rfl, e3.symm, trivial⟩, hS.F ht⟩) hS.2.2 d_Model_found_127
def m_Model_found_b17 (n : Nat) (i : Nat → Int32) (j : Nat → Int64) (a : Nat → Nat → Int32) (b : Nat → Nat → Int64) (rc_7 : Int32 → Int32 → Int32 → Option (Int32)) : Nat → Int32 → Int32 → Int32 → Int32 → Option (Int32)
  | 0, _, _, _, _ => none
  | f + 1, v1, v2, v3, v4 => ck v3 150 (if (((12 * v3) + (a 113 v3.toNatClampNeg))) ≤ v4 then ob1 (v3 + (-1) : Int32) (fun x_3 => rc_7 v1 v2 x_3) else ck v4 1800 (ck ((a 114 v4.toNatClampNeg)) 120000 (ck v4 1800 (ck ((a 114 v4.toNatClampNeg)) 120000 (ob0 (m_Model_sameLetters n i j a b (a 3 (a 114 v4.toNatClampNeg).toNatClampNeg) (a 4 (a 114 v4.toNatClampNeg).toNatClampNeg) v1 v2) (fun r_9 => if r_9 = ((0 : Int32)) then ob1 (v4 + 1 : Int32) (fun x_11 => m_Model_found_b17 n i j a b rc_7 f v1 v2 v3 x_11) else some v4))))))
set_option maxHeartbeats 4000000 in
set_option maxRecDepth 100000 in
theorem lb_Model_found_17 (l : Launch) (dC : Nat → ClassId) (dI : Nat → Nat → Nat) (cI cJ cB : ClassId) (adK adV adA : Nat → Nat) (h : Nat) (v : Nat → Nat) (n : Nat) {p : Program} {e : Env} {s : State} {m : MethodId} {args : Array Value} {below : List Frame} {meth : Method} {c : Code} {A : Nat → Prop} (hx : p.tables.exec = Jvm.exec) (hb : c.code = b_Model_found) (hml : c.maxLocals = 5) (hown : s.vm.findClass R_Model = some m.cls) (hts : ∀ w ∈ w_Model_found, w.before args s = true) (hK : va_K (dC, dI) classes [(cI, .int), (cJ, .long), (cB, .byte)] s) (hE : tw_E adK adV adA A s s.heap) (hA : ∀ q : Nat, s.heap.size ≤ q → A q) (hr : meth.sig.returnType = (some .int)) (hlocks : meth.locks = false) {i : Nat → Int32} {j : Nat → Int64} {a : Nat → Nat → Int32} {b : Nat → Nat → Int64} {r2 : Int32} (rc_7 : Int32 → Int32 → Int32 → Option (Int32)) (Hrc_7 : ∀ (v1 : Int32) (v2 : Int32) (v3 : Int32), rc_7 v1 v2 v3 = some r2 → ∀ (H : Heap) (locs : List Loc) (ls : Array Slot), va_P (dC, dI) classes (MW cI cJ cB h v i j a b) H → va_S A s.heap H locs → lv_has ls 5 [(0, .ref h), (1, .int v1), (2, .int v2), (3, .int v3)] → W p l e ({ frames := 1, cells := 0, slots := 0, locals := 25 } : Room) s m args below meth c H locs 0 0 (MQ below (va_Qi (xR r2) xT A) args s 0 0 A) (F0 m 7 ls [])) : ∀ (f : Nat) (v1 : Int32) (v2 : Int32) (v3 : Int32) (v4 : Int32), m_Model_found_b17 n i j a b rc_7 f v1 v2 v3 v4 = some r2 → ∀ (H : Heap) (locs : List Loc) (ls : Array Slot), va_P (dC, dI) classes (MW cI cJ cB h v i j a b) H → va_S A s.heap H locs → lv_has ls 5 [(0, .ref h), (1, .int v1), (2, .int v2), (3, .int v3), (4, .int v4)] → W p l e ({ frames := 1, cells := 0, slots := 0, locals := 25 } : Room) s m args below meth c H locs 0 0 (MQ below (va_Qi (xR r2) xT A) args s 0 0 A) (F0 m 17 ls []) := by
  have htt : ∀ w ∈ tw_T, w.before _ s = true := fun w h => hts w (List.mem_cons_of_mem _ h)
  intro f
  induction f with
  | zero =>
    intro v1 v2 v3 v4 hm
    rw [m_Model_found_b17] at hm
    cases hm
  | succ f ih =>
    intro v1 v2 v3 v4 hm H locs ls hP hS hl
    rw [m_Model_found_b17] at hm
    refine lv_iload hx hb d_Model_found_17 (lv_at hl 4 rfl) ?_
    refine lv_bipush (v := 12) hx hb d_Model_found_19 (by decide) ?_
    refine lv_iload_n hx hb d_Model_found_21 rfl (lv_at hl 3 rfl) ?_
    refine lv_imul hx hb d_Model_found_22 ?_
    refine lv_aload_n hx hb d_Model_found_23 rfl (lv_at hl 0 rfl) ?_
    refine va_get (D := (dC, dI)) (ci := 12) (v := .ref ((v 113))) (C := R_Model) (T := F_Model) (N := 127) hx hb htt iw_Model hown hK hP 0 yo_12 rfl 113 (Nat.le_of_ble_eq_true rfl) (htt _ lk_Model_307) (fun _ h9 => h9) yg_113 d_Model_found_24 ?_
    refine lv_iload_n hx hb d_Model_found_27 rfl (lv_at hl 3 rfl) ?_
    obtain ⟨h_1, hm⟩ := ck_some hm
    refine va_iald hx hb hK hP 63 0 ya_113 rfl h_1 d_Model_found_28 ?_
    refine lv_iadd hx hb d_Model_found_29 ?_
    refine lv_icmp_ge (tgt := 75) hx hb d_Model_found_30 (by decide) (fun c_2 => ?_) (fun c_2 => ?_)
    · replace hm := if_t c_2 hm
      obtain ⟨x_3, ex_3⟩ : ∃ y9 : Int32, y9 = v3 + (-1) := ⟨_, rfl⟩
      replace hm := ob1_at ex_3 hm
      refine lv_iinc (v := x_3) (lv' := [(3, .int x_3), (0, .ref h), (1, .int v1), (2, .int v2), (4, .int v4)]) hx hb d_Model_found_75 hl (k := 3) rfl (by rw [ex_3]; rfl) (by decide) rfl (fun ls hl => ?_)
      refine lv_goto (tgt := 7) hx hb d_Model_found_78 (by decide) ?_
      exact Hrc_7 _ _ _ hm _ _ _ hP hS (lv_sub hl [1, 2, 3, 0] rfl)
    · replace hm := if_f c_2 hm
      refine lv_aload_n hx hb d_Model_found_33 rfl (lv_at hl 0 rfl) ?_
      refine lv_aload_n hx hb d_Model_found_34 rfl (lv_at hl 0 rfl) ?_
      refine va_get (D := (dC, dI)) (ci := 12) (v := .ref ((v 3))) (C := R_Model) (T := F_Model) (N := 127) hx hb htt iw_Model hown hK hP 0 yo_12 rfl 3 (Nat.le_of_ble_eq_true rfl) (htt _ lk_Model_15) (fun _ h9 => h9) yg_3 d_Model_found_35 ?_
      refine lv_aload_n hx hb d_Model_found_38 rfl (lv_at hl 0 rfl) ?_
      refine va_get (D := (dC, dI)) (ci := 12) (v := .ref ((v 114))) (C := R_Model) (T := F_Model) (N := 127) hx hb htt iw_Model hown hK hP 0 yo_12 rfl 114 (Nat.le_of_ble_eq_true rfl) (htt _ lk_Model_310) (fun _ h9 => h9) yg_114 d_Model_found_39 ?_
      refine lv_iload hx hb d_Model_found_42 (lv_at hl 4 rfl) ?_
      obtain ⟨h_4, hm⟩ := ck_some hm
      refine va_iald hx hb hK hP 64 0 ya_114 rfl h_4 d_Model_found_44 ?_
      obtain ⟨h_5, hm⟩ := ck_some hm
      refine va_iald hx hb hK hP 3 0 ya_3 rfl h_5 d_Model_found_45 ?_
      refine lv_aload_n hx hb d_Model_found_46 rfl (lv_at hl 0 rfl) ?_
      refine va_get (D := (dC, dI)) (ci := 12) (v := .ref ((v 4))) (C := R_Model) (T := F_Model) (N := 127) hx hb htt iw_Model hown hK hP 0 yo_12 rfl 4 (Nat.le_of_ble_eq_true rfl) (htt _ lk_Model_22) (fun _ h9 => h9) yg_4 d_Model_found_47 ?_
      refine lv_aload_n hx hb d_Model_found_50 rfl (lv_at hl 0 rfl) ?_
      refine va_get (D := (dC, dI)) (ci := 12) (v := .ref ((v 114))) (C := R_Model) (T := F_Model) (N := 127) hx hb htt iw_Model hown hK hP 0 yo_12 rfl 114 (Nat.le_of_ble_eq_true rfl) (htt _ lk_Model_310) (fun _ h9 => h9) yg_114 d_Model_found_51 ?_
      refine lv_iload hx hb d_Model_found_54 (lv_at hl 4 rfl) ?_
      obtain ⟨h_6, hm⟩ := ck_some hm
      refine va_iald hx hb hK hP 64 0 ya_114 rfl h_6 d_Model_found_56 ?_
      obtain ⟨h_7, hm⟩ := ck_some hm
      refine va_iald hx hb hK hP 4 0 ya_4 rfl h_7 d_Model_found_57 ?_
      refine lv_iload_n hx hb d_Model_found_58 rfl (lv_at hl 1 rfl) ?_
      refine lv_iload_n hx hb d_Model_found_59 rfl (lv_at hl 2 rfl) ?_
      obtain ⟨r_9, h_8, hm⟩ := ob0_some hm
      have hFc := x_free0 hS hA
      refine va_calli (va_runV (As := [.int (a 3 (a 114 v4.toNatClampNeg).toNatClampNeg), .int (a 4 (a 114 v4.toNatClampNeg).toNatClampNeg), .int v1, .int v2]) (rest := []) ⟨hx, hb, hml, hown, hts⟩ (x_Model_sameLetters l dC dI cI cJ cB adK adV adA h v H.size n h_8) (cwV 4 hts (tw_GV tw_cons cw_Model_sameLetters lk_Model_71 in_Model_sameLetters sel_Model_sameLetters ini_Model) rfl rfl rfl ⟨rfl, hd_Model_sameLetters⟩ ⟨Nat.le_of_ble_eq_true rfl, Nat.le_of_ble_eq_true rfl⟩) (ypVr hK hP hS hE hFc yo_12 rfl) rfl rfl hl.1 rfl (lv_room (Nat.le_of_ble_eq_true rfl)) d_Model_found_60 ⟨Nat.le_of_ble_eq_true rfl, Nat.le_of_ble_eq_true rfl⟩) hS (fun q _ h => hFc q h) hFc (fun r9 u9 t9 H locs ht hvm e9 hB hz1 hk1 hS => ?_)
      have e9 : r_9 = r9 := e9
      subst e9
      replace hP := x_keep hP hk1
      clear hFc hk1 hz1 hvm hB ht
      refine lv_if_eq (tgt := 69) hx hb d_Model_found_63 (by decide) (fun c_10 => ?_) (fun c_10 => ?_)
      · replace hm := if_t c_10 hm
        obtain ⟨x_11, ex_11⟩ : ∃ y9 : Int32, y9 = v4 + 1 := ⟨_, rfl⟩
        replace hm := ob1_at ex_11 hm
        refine lv_iinc (v := x_11) (lv' := [(4, .int x_11), (0, .ref h), (1, .int v1), (2, .int v2), (3, .int v3)]) hx hb d_Model_found_69 hl (k := 4) rfl (by rw [ex_11]; rfl) (by decide) rfl (fun ls hl => ?_)
        refine lv_goto (tgt := 17) hx hb d_Model_found_72 (by decide) ?_
        exact ih _ _ _ _ hm _ _ _ hP hS (lv_sub hl [1, 2, 3, 4, 0] rfl)
      · replace hm := if_f c_10 hm
        refine lv_iload hx hb d_Model_found_66 (lv_at hl 4 rfl) ?_
        have e3 := re1 hm
        exact W.iret hx hb hr (fun t9 ht hW => ⟨⟨_, (), rfl, e3.symm, trivial⟩, hS.F ht⟩) hS.2.2 d_Model_found_68
def m_Model_found_b7 (n : Nat) (i : Nat → Int32) (j : Nat → Int64) (a : Nat → Nat → Int32) (b : Nat → Nat → Int64) : Nat → Int32 → Int32 → Int32 → Option (Int32)
  | 0, _, _, _ => none
  | f + 1, v1, v2, v3 => if v3 < ((0 : Int32)) then m_Model_found_b83 n i j a b n v1 v2 (0 : Int32) else ob1 (12 * v3 : Int32) (fun x_2 => m_Model_found_b17 n i j a b (m_Model_found_b7 n i j a b f) n v1 v2 v3 x_2)
set_option maxHeartbeats 4000000 in
set_option maxRecDepth 100000 in
theorem lb_Model_found_7 (l : Launch) (dC : Nat → ClassId) (dI : Nat → Nat → Nat) (cI cJ cB : ClassId) (adK adV adA : Nat → Nat) (h : Nat) (v : Nat → Nat) (n : Nat) {p : Program} {e : Env} {s : State} {m : MethodId} {args : Array Value} {below : List Frame} {meth : Method} {c : Code} {A : Nat → Prop} (hx : p.tables.exec = Jvm.exec) (hb : c.code = b_Model_found) (hml : c.maxLocals = 5) (hown : s.vm.findClass R_Model = some m.cls) (hts : ∀ w ∈ w_Model_found, w.before args s = true) (hK : va_K (dC, dI) classes [(cI, .int), (cJ, .long), (cB, .byte)] s) (hE : tw_E adK adV adA A s s.heap) (hA : ∀ q : Nat, s.heap.size ≤ q → A q) (hr : meth.sig.returnType = (some .int)) (hlocks : meth.locks = false) {i : Nat → Int32} {j : Nat → Int64} {a : Nat → Nat → Int32} {b : Nat → Nat → Int64} {r2 : Int32} : ∀ (f : Nat) (v1 : Int32) (v2 : Int32) (v3 : Int32), m_Model_found_b7 n i j a b f v1 v2 v3 = some r2 → ∀ (H : Heap) (locs : List Loc) (ls : Array Slot), va_P (dC, dI) classes (MW cI cJ cB h v i j a b) H → va_S A s.heap H locs → lv_has ls 5 [(0, .ref h), (1, .int v1), (2, .int v2), (3, .int v3)] → W p l e ({ frames := 1, cells := 0, slots := 0, locals := 25 } : Room) s m args below meth c H locs 0 0 (MQ below (va_Qi (xR r2) xT A) args s 0 0 A) (F0 m 7 ls []) := by
  have htt : ∀ w ∈ tw_T, w.before _ s = true := fun w h => hts w (List.mem_cons_of_mem _ h)
  intro f
  induction f with
  | zero =>
    intro v1 v2 v3 hm
    rw [m_Model_found_b7] at hm
    cases hm
  | succ f ih =>
    intro v1 v2 v3 hm H locs ls hP hS hl
    rw [m_Model_found_b7] at hm
    refine lv_iload_n hx hb d_Model_found_7 rfl (lv_at hl 3 rfl) ?_
    refine lv_if_lt (tgt := 81) hx hb d_Model_found_8 (by decide) (fun c_1 => ?_) (fun c_1 => ?_)
    · replace hm := if_t c_1 hm
      refine lv_iconst (v := 0) hx hb d_Model_found_81 (by decide) ?_
      refine lv_istore_n (lv' := [(3, .int 0), (0, .ref h), (1, .int v1), (2, .int v2)]) hx hb d_Model_found_82 rfl hl (by decide) rfl (fun ls hl => ?_)
      exact lb_Model_found_83 l dC dI cI cJ cB adK adV adA h v n hx hb hml hown hts hK hE hA hr hlocks n _ _ _ hm _ _ _ hP hS (lv_sub hl [1, 2, 3, 0] rfl)
    · replace hm := if_f c_1 hm
      refine lv_bipush (v := 12) hx hb d_Model_found_11 (by decide) ?_
      refine lv_iload_n hx hb d_Model_found_13 rfl (lv_at hl 3 rfl) ?_
      refine lv_imul hx hb d_Model_found_14 ?_
      refine lv_topi (fun x_2 ex_2 => ?_)
      replace hm := ob1_at ex_2 hm
      refine lv_istore (lv' := [(4, .int x_2), (0, .ref h), (1, .int v1), (2, .int v2), (3, .int v3)]) hx hb d_Model_found_15 hl (by decide) rfl (fun ls hl => ?_)
      exact lb_Model_found_17 l dC dI cI cJ cB adK adV adA h v n hx hb hml hown hts hK hE hA hr hlocks (m_Model_found_b7 n i j a b f) ih n _ _ _ _ hm _ _ _ hP hS (lv_sub hl [1, 2, 3, 4, 0] rfl)
def m_Model_found (n : Nat) (i : Nat → Int32) (j : Nat → Int64) (a : Nat → Nat → Int32) (b : Nat → Nat → Int64) (v1 : Int32) (v2 : Int32) : Option (Int32) := ob1 ((i 99) - 1 : Int32) (fun x_1 => m_Model_found_b7 n i j a b n v1 v2 x_1)
set_option maxHeartbeats 4000000 in
set_option maxRecDepth 100000 in
theorem x_Model_found (l : Launch) (dC : Nat → ClassId) (dI : Nat → Nat → Nat) (cI cJ cB : ClassId) (adK adV adA : Nat → Nat) (h : Nat) (v : Nat → Nat) (sz : Nat) (n : Nat) {i : Nat → Int32} {j : Nat → Int64} {a : Nat → Nat → Int32} {b : Nat → Nat → Int64} {v1 : Int32} {v2 : Int32} {r2 : Int32} (hm : m_Model_found n i j a b v1 v2 = some r2) : Met l y_Model_found w_Model_found ({ frames := 1, cells := 0, slots := 0, locals := 25 } : Room) (va_Pc [.ref h, .int v1, .int v2] (yEr dC dI cI cJ cB adK adV adA h v i j a b sz)) (va_Qi (xR r2) xT (xN sz)) 0 0 (xN sz) := by
  refine Met.ofW (cc := b_Model_found) (maxL := 5) (ret := (some .int)) (by decide) rfl ?_
  intro p e s m args below meth c s₁ B hml hv
  obtain ⟨rfl, hsz, hP, hK, hE⟩ := hv
  have hx := B.exec
  have hb := B.bytes
  have hr := B.returns
  have hts := atoms_spec (ws := w_Model_found) B.pre
  have htt : ∀ w ∈ tw_T, w.before _ s = true := fun w h => hts w (List.mem_cons_of_mem _ h)
  have hown : s.vm.findClass R_Model = some m.cls := findClass_of_methodNamed B.named
  have hlocks := B.notSynchronized
  subst hsz
  generalize hAe : xN s.heap.size = A at hE ⊢
  have hA : ∀ q : Nat, s.heap.size ≤ q → A q := fun q h => by rw [← hAe]; exact Or.inr h
  have hS : va_S A s.heap s.heap [] := va_S.rf
  have hl := lv_entry ([.ref h, .int v1, .int v2]) (n := 5) (Nat.le_of_ble_eq_true rfl)
  rw [lg_entry_eq]
  generalize (lg_sl ([.ref h, .int v1, .int v2]) ++ List.replicate (5 - (lg_sl ([.ref h, .int v1, .int v2])).length) Slot.unset).toArray = ls at hl ⊢
  have hl : lv_has ls 5 [(0, .ref h), (1, .int v1), (2, .int v2)] := hl
  rw [m_Model_found] at hm
  refine lv_aload_n hx hb d_Model_found_0 rfl (lv_at hl 0 rfl) ?_
  refine va_get (D := (dC, dI)) (ci := 12) (v := .int (i 99)) (C := R_Model) (T := F_Model) (N := 127) hx hb htt iw_Model hown hK hP 0 yo_12 rfl 99 (Nat.le_of_ble_eq_true rfl) (htt _ lk_Model_538) (fun _ h9 => h9) yg_99 d_Model_found_1 ?_
  refine lv_iconst (v := 1) hx hb d_Model_found_4 (by decide) ?_
  refine lv_isub hx hb d_Model_found_5 ?_
  refine lv_topi (fun x_1 ex_1 => ?_)
  replace hm := ob1_at ex_1 hm
  refine lv_istore_n (lv' := [(3, .int x_1), (0, .ref h), (1, .int v1), (2, .int v2)]) hx hb d_Model_found_6 rfl hl (by decide) rfl (fun ls hl => ?_)
  exact lb_Model_found_7 l dC dI cI cJ cB adK adV adA h v n hx hb hml hown hts hK hE hA hr hlocks n _ _ _ hm _ _ _ hP hS (lv_sub hl [1, 2, 3, 0] rfl)

def m_Model_waits (n : Nat) (i : Nat → Int32) (j : Nat → Int64) (a : Nat → Nat → Int32) (b : Nat → Nat → Int64)  : Option ((Nat → Int32) × (Nat → Int64) × (Nat → Nat → Int32) × (Nat → Nat → Int64) × Int32) := if ((i 98)) = ((400 : Int32)) then om (m_Model_fails n i j a b (6 : Int32)) (fun i_5 j_6 a_7 b_8 r_9 => some (i_5, j_6, a_7, b_8, 0)) else ob1 ((i 98) + 1 : Int32) (fun x_2 => ob1 (upd i 98 x_2 : Nat → Int32) (fun i_3 => some (i_3, j, a, b, 1)))
set_option maxHeartbeats 4000000 in
set_option maxRecDepth 100000 in
theorem x_Model_waits (l : Launch) (dC : Nat → ClassId) (dI : Nat → Nat → Nat) (cI cJ cB : ClassId) (adK adV adA : Nat → Nat) (h : Nat) (v : Nat → Nat) (sz : Nat) (n : Nat) {i : Nat → Int32} {j : Nat → Int64} {a : Nat → Nat → Int32} {b : Nat → Nat → Int64}  {i2 : Nat → Int32} {j2 : Nat → Int64} {a2 : Nat → Nat → Int32} {b2 : Nat → Nat → Int64} {r2 : Int32} (hm : m_Model_waits n i j a b = some (i2, j2, a2, b2, r2)) : Met l y_Model_waits w_Model_waits ({ frames := 1, cells := 0, slots := 0, locals := 21 } : Room) (va_Pc [.ref h] (yE dC dI cI cJ cB adK adV adA h v i j a b sz)) (va_Qi (xR r2) (yB dC dI cI cJ cB h v i2 j2 a2 b2 (va_A (MW cI cJ cB h v i j a b) sz)) (va_A (MW cI cJ cB h v i j a b) sz)) 0 0 ((va_A (MW cI cJ cB h v i j a b) sz)) := by
  refine Met.ofW (cc := b_Model_waits) (maxL := 1) (ret := (some .boolean)) (by decide) rfl ?_
  intro p e s m args below meth c s₁ B hml hv
  obtain ⟨rfl, hsz, hP, hK, hE, hD0⟩ := hv
  have hx := B.exec
  have hb := B.bytes
  have hr := B.returns
  have hts := atoms_spec (ws := w_Model_waits) B.pre
  have htt : ∀ w ∈ tw_T, w.before _ s = true := fun w h => hts w (List.mem_cons_of_mem _ h)
  have hown : s.vm.findClass R_Model = some m.cls := findClass_of_methodNamed B.named
  have hlocks := B.notSynchronized
  subst hsz
  have hD := hD0.self (sz := s.heap.size)
  generalize hAe : (va_A (MW cI cJ cB h v i j a b) s.heap.size) = A at hD hE ⊢
  have hA : ∀ q : Nat, s.heap.size ≤ q → A q := fun q h => by rw [← hAe]; exact Or.inr h
  have hS : va_S A s.heap s.heap [] := va_S.rf
  have hl := lv_entry ([.ref h]) (n := 1) (Nat.le_of_ble_eq_true rfl)
  rw [lg_entry_eq]
  generalize (lg_sl ([.ref h]) ++ List.replicate (1 - (lg_sl ([.ref h])).length) Slot.unset).toArray = ls at hl ⊢
  have hl : lv_has ls 1 [(0, .ref h)] := hl
  rw [m_Model_waits] at hm
  refine lv_aload_n hx hb d_Model_waits_0 rfl (lv_at hl 0 rfl) ?_
  refine va_get (D := (dC, dI)) (ci := 12) (v := .int (i 98)) (C := R_Model) (T := F_Model) (N := 127) hx hb htt iw_Model hown hK hP 0 yo_12 rfl 98 (Nat.le_of_ble_eq_true rfl) (htt _ lk_Model_535) (fun _ h9 => h9) yg_98 d_Model_waits_1 ?_
  refine lv_sipush (v := 400) hx hb d_Model_waits_4 (by decide) ?_
  refine lv_icmp_ne (tgt := 19) hx hb d_Model_waits_7 (by decide) (fun c_1 => ?_) (fun c_1 => ?_)
  · replace hm := if_f c_1 hm
    refine lv_aload_n hx hb d_Model_waits_19 rfl (lv_at hl 0 rfl) ?_
    refine lv_dup hx hb d_Model_waits_20 rfl ?_
    refine va_get (D := (dC, dI)) (ci := 12) (v := .int (i 98)) (C := R_Model) (T := F_Model) (N := 127) hx hb htt iw_Model hown hK hP 0 yo_12 rfl 98 (Nat.le_of_ble_eq_true rfl) (htt _ lk_Model_535) (fun _ h9 => h9) yg_98 d_Model_waits_21 ?_
    refine lv_iconst (v := 1) hx hb d_Model_waits_24 (by decide) ?_
    refine lv_iadd hx hb d_Model_waits_25 ?_
    refine lv_topi (fun x_2 ex_2 => ?_)
    replace hm := ob1_at ex_2 hm
    refine va_put (D := (dC, dI)) (ci := 12) (v := .int x_2) (ty := .int) (C := R_Model) (T := F_Model) (N := 127) hx hb htt iw_Model t_Model t_Model_ok n_Model hown hK hP hD hS 0 yo_12 rfl 98 (Nat.le_of_ble_eq_true rfl) (htt _ lk_Model_535) (fun _ h9 => h9) rfl (by decide +kernel) rfl rfl yl_98 d_Model_waits_26 (fun H locs hP hD hS => ?_)
    obtain ⟨i_3, ei_3⟩ : ∃ y9 : Nat → Int32, y9 = upd i 98 x_2 := ⟨_, rfl⟩
    replace hm := ob1_at ei_3 hm
    obtain ⟨hP, hD⟩ := yw_98 ei_3 hP hD
    refine lv_iconst (v := 1) hx hb d_Model_waits_29 (by decide) ?_
    obtain ⟨e1i, e1j, e1a, e1b, e3⟩ := re4m hm
    obtain ⟨hP, hD⟩ := y_eq e1i e1j e1a e1b hP hD
    exact W.zret hx hb hr (by decide) (fun t9 ht hW => ⟨⟨_, (), rfl, e3.symm, by rw [ht]; exact hP, hD⟩, hS.F ht⟩) hS.2.2 d_Model_waits_30
  · replace hm := if_t c_1 hm
    refine lv_aload_n hx hb d_Model_waits_10 rfl (lv_at hl 0 rfl) ?_
    refine lv_bipush (v := 6) hx hb d_Model_waits_11 (by decide) ?_
    obtain ⟨i_5, j_6, a_7, b_8, r_9, h_4, hm⟩ := om_some hm
    have hFc := x_free hD hS hA
    refine va_calll (va_runV (As := [.int 6]) (rest := []) ⟨hx, hb, hml, hown, hts⟩ (x_Model_fails l dC dI cI cJ cB adK adV adA h v s.heap.size n h_4) (cwV 1 hts (tw_GV tw_cons cw_Model_fails lk_Model_596 in_Model_fails sel_Model_fails ini_Model) rfl rfl rfl ⟨rfl, hd_Model_fails⟩ ⟨Nat.le_of_ble_eq_true rfl, Nat.le_of_ble_eq_true rfl⟩) (ypV hK hP hD hS hE hFc yo_12 rfl) rfl rfl hl.1 rfl (lv_room (Nat.le_of_ble_eq_true rfl)) d_Model_waits_13 ⟨Nat.le_of_ble_eq_true rfl, Nat.le_of_ble_eq_true rfl⟩) hS (fun q _ h => hFc q h) hFc (fun r9 u9 t9 H locs ht hvm e9 hB hz1 hk1 hS => ?_)
    have e9 : r_9 = r9 := e9
    subst e9
    obtain ⟨hP, hD⟩ := y_aft hB ht hFc
    clear hFc hk1 hz1 hvm hB ht
    refine lv_pop2_2 hx hb d_Model_waits_16 rfl ?_
    refine lv_iconst (v := 0) hx hb d_Model_waits_17 (by decide) ?_
    obtain ⟨e1i, e1j, e1a, e1b, e3⟩ := re4m hm
    obtain ⟨hP, hD⟩ := y_eq e1i e1j e1a e1b hP hD
    exact W.zret hx hb hr (by decide) (fun t9 ht hW => ⟨⟨_, (), rfl, e3.symm, by rw [ht]; exact hP, hD⟩, hS.F ht⟩) hS.2.2 d_Model_waits_18

def m_Model_hasLevel (n : Nat) (i : Nat → Int32) (j : Nat → Int64) (a : Nat → Nat → Int32) (b : Nat → Nat → Int64)  : Option ((Nat → Int32) × (Nat → Int64) × (Nat → Nat → Int32) × (Nat → Nat → Int64) × Int32) := if ((i 97)) = ((150 : Int32)) then om (m_Model_fails n i j a b (6 : Int32)) (fun i_3 j_4 a_5 b_6 r_7 => some (i_3, j_4, a_5, b_6, 0)) else some (i, j, a, b, 1)
set_option maxHeartbeats 4000000 in
set_option maxRecDepth 100000 in
theorem x_Model_hasLevel (l : Launch) (dC : Nat → ClassId) (dI : Nat → Nat → Nat) (cI cJ cB : ClassId) (adK adV adA : Nat → Nat) (h : Nat) (v : Nat → Nat) (sz : Nat) (n : Nat) {i : Nat → Int32} {j : Nat → Int64} {a : Nat → Nat → Int32} {b : Nat → Nat → Int64}  {i2 : Nat → Int32} {j2 : Nat → Int64} {a2 : Nat → Nat → Int32} {b2 : Nat → Nat → Int64} {r2 : Int32} (hm : m_Model_hasLevel n i j a b = some (i2, j2, a2, b2, r2)) : Met l y_Model_hasLevel w_Model_hasLevel ({ frames := 1, cells := 0, slots := 0, locals := 21 } : Room) (va_Pc [.ref h] (yE dC dI cI cJ cB adK adV adA h v i j a b sz)) (va_Qi (xR r2) (yB dC dI cI cJ cB h v i2 j2 a2 b2 (va_A (MW cI cJ cB h v i j a b) sz)) (va_A (MW cI cJ cB h v i j a b) sz)) 0 0 ((va_A (MW cI cJ cB h v i j a b) sz)) := by
  refine Met.ofW (cc := b_Model_hasLevel) (maxL := 1) (ret := (some .boolean)) (by decide) rfl ?_
  intro p e s m args below meth c s₁ B hml hv
  obtain ⟨rfl, hsz, hP, hK, hE, hD0⟩ := hv
  have hx := B.exec
  have hb := B.bytes
  have hr := B.returns
  have hts := atoms_spec (ws := w_Model_hasLevel) B.pre
  have htt : ∀ w ∈ tw_T, w.before _ s = true := fun w h => hts w (List.mem_cons_of_mem _ h)
  have hown : s.vm.findClass R_Model = some m.cls := findClass_of_methodNamed B.named
  have hlocks := B.notSynchronized
  subst hsz
  have hD := hD0.self (sz := s.heap.size)
  generalize hAe : (va_A (MW cI cJ cB h v i j a b) s.heap.size) = A at hD hE ⊢
  have hA : ∀ q : Nat, s.heap.size ≤ q → A q := fun q h => by rw [← hAe]; exact Or.inr h
  have hS : va_S A s.heap s.heap [] := va_S.rf
  have hl := lv_entry ([.ref h]) (n := 1) (Nat.le_of_ble_eq_true rfl)
  rw [lg_entry_eq]
  generalize (lg_sl ([.ref h]) ++ List.replicate (1 - (lg_sl ([.ref h])).length) Slot.unset).toArray = ls at hl ⊢
  have hl : lv_has ls 1 [(0, .ref h)] := hl
  rw [m_Model_hasLevel] at hm
  refine lv_aload_n hx hb d_Model_hasLevel_0 rfl (lv_at hl 0 rfl) ?_
  refine va_get (D := (dC, dI)) (ci := 12) (v := .int (i 97)) (C := R_Model) (T := F_Model) (N := 127) hx hb htt iw_Model hown hK hP 0 yo_12 rfl 97 (Nat.le_of_ble_eq_true rfl) (htt _ lk_Model_532) (fun _ h9 => h9) yg_97 d_Model_hasLevel_1 ?_
  refine lv_sipush (v := 150) hx hb d_Model_hasLevel_4 (by decide) ?_
  refine lv_icmp_ne (tgt := 19) hx hb d_Model_hasLevel_7 (by decide) (fun c_1 => ?_) (fun c_1 => ?_)
  · replace hm := if_f c_1 hm
    refine lv_iconst (v := 1) hx hb d_Model_hasLevel_19 (by decide) ?_
    obtain ⟨e1i, e1j, e1a, e1b, e3⟩ := re4m hm
    obtain ⟨hP, hD⟩ := y_eq e1i e1j e1a e1b hP hD
    exact W.zret hx hb hr (by decide) (fun t9 ht hW => ⟨⟨_, (), rfl, e3.symm, by rw [ht]; exact hP, hD⟩, hS.F ht⟩) hS.2.2 d_Model_hasLevel_20
  · replace hm := if_t c_1 hm
    refine lv_aload_n hx hb d_Model_hasLevel_10 rfl (lv_at hl 0 rfl) ?_
    refine lv_bipush (v := 6) hx hb d_Model_hasLevel_11 (by decide) ?_
    obtain ⟨i_3, j_4, a_5, b_6, r_7, h_2, hm⟩ := om_some hm
    have hFc := x_free hD hS hA
    refine va_calll (va_runV (As := [.int 6]) (rest := []) ⟨hx, hb, hml, hown, hts⟩ (x_Model_fails l dC dI cI cJ cB adK adV adA h v s.heap.size n h_2) (cwV 1 hts (tw_GV tw_cons cw_Model_fails lk_Model_596 in_Model_fails sel_Model_fails ini_Model) rfl rfl rfl ⟨rfl, hd_Model_fails⟩ ⟨Nat.le_of_ble_eq_true rfl, Nat.le_of_ble_eq_true rfl⟩) (ypV hK hP hD hS hE hFc yo_12 rfl) rfl rfl hl.1 rfl (lv_room (Nat.le_of_ble_eq_true rfl)) d_Model_hasLevel_13 ⟨Nat.le_of_ble_eq_true rfl, Nat.le_of_ble_eq_true rfl⟩) hS (fun q _ h => hFc q h) hFc (fun r9 u9 t9 H locs ht hvm e9 hB hz1 hk1 hS => ?_)
    have e9 : r_7 = r9 := e9
    subst e9
    obtain ⟨hP, hD⟩ := y_aft hB ht hFc
    clear hFc hk1 hz1 hvm hB ht
    refine lv_pop2_2 hx hb d_Model_hasLevel_16 rfl ?_
    refine lv_iconst (v := 0) hx hb d_Model_hasLevel_17 (by decide) ?_
    obtain ⟨e1i, e1j, e1a, e1b, e3⟩ := re4m hm
    obtain ⟨hP, hD⟩ := y_eq e1i e1j e1a e1b hP hD
    exact W.zret hx hb hr (by decide) (fun t9 ht hW => ⟨⟨_, (), rfl, e3.symm, by rw [ht]; exact hP, hD⟩, hS.F ht⟩) hS.2.2 d_Model_hasLevel_18

def m_Model_isList (n : Nat) (v0 : Int64) : Option (Int32) := ob0 (m_Model_kindOf n v0) (fun r_2 => if r_2 = ((2 : Int32)) then some 1 else some 0)
set_option maxHeartbeats 4000000 in
set_option maxRecDepth 100000 in
theorem x_Model_isList (l : Launch) (sz : Nat) (n : Nat) {v0 : Int64} {r2 : Int32} (hm : m_Model_isList n v0 = some r2) : Met l y_Model_isList w_Model_isList ({ frames := 1, cells := 0, slots := 0, locals := 21 } : Room) (va_Pc [.long v0] (xE0 sz)) (va_Qi (xR r2) xT (xN sz)) 0 0 (xN sz) := by
  refine Met.ofW (cc := b_Model_isList) (maxL := 2) (ret := (some .boolean)) (by decide) rfl ?_
  intro p e s m args below meth c s₁ B hml hv
  obtain ⟨rfl, hsz⟩ := hv
  have hx := B.exec
  have hb := B.bytes
  have hr := B.returns
  have hts := atoms_spec (ws := w_Model_isList) B.pre
  have htt : ∀ w ∈ tw_T, w.before _ s = true := fun w h => hts w (List.mem_cons_of_mem _ h)
  have hown : s.vm.findClass R_Model = some m.cls := findClass_of_methodNamed B.named
  have hlocks := B.notSynchronized
  subst hsz
  generalize hAe : xN s.heap.size = A
  have hA : ∀ q : Nat, s.heap.size ≤ q → A q := fun q h => by rw [← hAe]; exact Or.inr h
  have hS : va_S A s.heap s.heap [] := va_S.rf
  have hl := lv_entry ([.long v0]) (n := 2) (Nat.le_of_ble_eq_true rfl)
  rw [lg_entry_eq]
  generalize (lg_sl ([.long v0]) ++ List.replicate (2 - (lg_sl ([.long v0])).length) Slot.unset).toArray = ls at hl ⊢
  have hl : lv_has ls 2 [(0, .long v0)] := hl
  rw [m_Model_isList] at hm
  refine lv_lload_n hx hb d_Model_isList_0 rfl (lv_at hl 0 rfl) ?_
  obtain ⟨r_2, h_1, hm⟩ := ob0_some hm
  have hFc := x_free0 hS hA
  refine va_calli (va_runS (As := [.long v0]) (rest := []) ⟨hx, hb, hml, hown, hts⟩ (x_Model_kindOf l s.heap.size n h_1) (va_cwS 1 hts (tw_GS tw_cons cw_Model_kindOf lk_Model_11 st_Model_kindOf ini_Model) rfl rfl rfl hd_Model_kindOf ⟨Nat.le_of_ble_eq_true rfl, Nat.le_of_ble_eq_true rfl⟩) xpS0 rfl rfl hl.1 rfl (lv_room (Nat.le_of_ble_eq_true rfl)) d_Model_isList_1 ⟨Nat.le_of_ble_eq_true rfl, Nat.le_of_ble_eq_true rfl⟩) hS (fun q _ h => hFc q h) hFc (fun r9 u9 t9 H locs ht hvm e9 hB hz1 hk1 hS => ?_)
  have e9 : r_2 = r9 := e9
  subst e9
  clear hFc hk1 hz1 hvm hB ht
  refine lv_iconst (v := 2) hx hb d_Model_isList_4 (by decide) ?_
  refine lv_icmp_ne (tgt := 12) hx hb d_Model_isList_5 (by decide) (fun c_3 => ?_) (fun c_3 => ?_)
  · replace hm := if_f c_3 hm
    refine lv_iconst (v := 0) hx hb d_Model_isList_12 (by decide) ?_
    have e3 := re1 hm
    exact W.zret hx hb hr (by decide) (fun t9 ht hW => ⟨⟨_, (), rfl, e3.symm, trivial⟩, hS.F ht⟩) hS.2.2 d_Model_isList_13
  · replace hm := if_t c_3 hm
    refine lv_iconst (v := 1) hx hb d_Model_isList_8 (by decide) ?_
    refine lv_goto (tgt := 13) hx hb d_Model_isList_9 (by decide) ?_
    have e3 := re1 hm
    exact W.zret hx hb hr (by decide) (fun t9 ht hW => ⟨⟨_, (), rfl, e3.symm, trivial⟩, hS.F ht⟩) hS.2.2 d_Model_isList_13

def m_Model_floor_b43 (n : Nat) (v4 : Int64) (s0 : Int64) (s1 : Int64) : Option (Int32) := ob0 (m_Math_floorDiv n (s1 + s0) v4) (fun r_2 => some r_2.toInt32)
set_option maxHeartbeats 4000000 in
set_option maxRecDepth 100000 in
theorem lb_Model_floor_43 (l : Launch) (n : Nat) {p : Program} {e : Env} {s : State} {m : MethodId} {args : Array Value} {below : List Frame} {meth : Method} {c : Code} {A : Nat → Prop} (hx : p.tables.exec = Jvm.exec) (hb : c.code = b_Model_floor) (hml : c.maxLocals = 10) (hown : s.vm.findClass R_Model = some m.cls) (hts : ∀ w ∈ w_Model_floor, w.before args s = true) (hA : ∀ q : Nat, s.heap.size ≤ q → A q) (hr : meth.sig.returnType = (some .int)) (hlocks : meth.locks = false) {r2 : Int32} (v4 : Int64) (s0 : Int64) (s1 : Int64) (hm : m_Model_floor_b43 n v4 s0 s1 = some r2) : ∀ (H : Heap) (locs : List Loc) (ls : Array Slot), va_S A s.heap H locs → lv_has ls 10 [(4, .long v4)] → W p l e ({ frames := 1, cells := 0, slots := 0, locals := 25 } : Room) s m args below meth c H locs 0 0 (MQ below (va_Qi (xR r2) xT A) args s 0 0 A) (F0 m 43 ls [.long s0, .long s1]) := by
  have htt : ∀ w ∈ tw_T, w.before _ s = true := fun w h => hts w (List.mem_cons_of_mem _ h)
  intro H locs ls hS hl
  rw [m_Model_floor_b43] at hm
  refine lv_ladd hx hb d_Model_floor_43 ?_
  refine lv_lload hx hb d_Model_floor_44 (lv_at hl 0 rfl) ?_
  obtain ⟨r_2, h_1, hm⟩ := ob0_some hm
  have hFc := x_free0 hS hA
  refine va_calll (va_runS (As := [.long (s1 + s0), .long v4]) (rest := []) ⟨hx, hb, hml, hown, hts⟩ (x_Math_floorDiv l H.size n h_1) (va_cwS 2 hts (tw_GS tw_cons cw_Math_floorDiv lk_Model_798 st_Math_floorDiv ini_Math) rfl rfl rfl hd_Math_floorDiv ⟨Nat.le_of_ble_eq_true rfl, Nat.le_of_ble_eq_true rfl⟩) xpS0 rfl rfl hl.1 rfl (lv_room (Nat.le_of_ble_eq_true rfl)) d_Model_floor_46 ⟨Nat.le_of_ble_eq_true rfl, Nat.le_of_ble_eq_true rfl⟩) hS (fun q _ h => hFc q h) hFc (fun r9 u9 t9 H locs ht hvm e9 hB hz1 hk1 hS => ?_)
  have e9 : r_2 = r9 := e9
  subst e9
  clear hFc hk1 hz1 hvm hB ht
  refine lv_l2i hx hb d_Model_floor_49 rfl ?_
  have e3 := re1 hm
  exact W.iret hx hb hr (fun t9 ht hW => ⟨⟨_, (), rfl, e3.symm, trivial⟩, hS.F ht⟩) hS.2.2 d_Model_floor_50
def m_Model_floor_b28 (n : Nat) (v0 : Int64) (v2 : Int64) (v4 : Int64) (s0 : Int64) : Option (Int32) := if ((lg_cmp v2 0)) = ((0 : Int32)) then m_Model_floor_b43 n v4 (0 : Int64) v0 else m_Model_floor_b43 n v4 s0 v0
set_option maxHeartbeats 4000000 in
set_option maxRecDepth 100000 in
theorem lb_Model_floor_28 (l : Launch) (n : Nat) {p : Program} {e : Env} {s : State} {m : MethodId} {args : Array Value} {below : List Frame} {meth : Method} {c : Code} {A : Nat → Prop} (hx : p.tables.exec = Jvm.exec) (hb : c.code = b_Model_floor) (hml : c.maxLocals = 10) (hown : s.vm.findClass R_Model = some m.cls) (hts : ∀ w ∈ w_Model_floor, w.before args s = true) (hA : ∀ q : Nat, s.heap.size ≤ q → A q) (hr : meth.sig.returnType = (some .int)) (hlocks : meth.locks = false) {r2 : Int32} (v0 : Int64) (v2 : Int64) (v4 : Int64) (s0 : Int64) (hm : m_Model_floor_b28 n v0 v2 v4 s0 = some r2) : ∀ (H : Heap) (locs : List Loc) (ls : Array Slot), va_S A s.heap H locs → lv_has ls 10 [(0, .long v0), (2, .long v2), (4, .long v4)] → W p l e ({ frames := 1, cells := 0, slots := 0, locals := 25 } : Room) s m args below meth c H locs 0 0 (MQ below (va_Qi (xR r2) xT A) args s 0 0 A) (F0 m 28 ls [.long s0]) := by
  have htt : ∀ w ∈ tw_T, w.before _ s = true := fun w h => hts w (List.mem_cons_of_mem _ h)
  intro H locs ls hS hl
  rw [m_Model_floor_b28] at hm
  refine lv_lstore (lv' := [(8, .long s0), (0, .long v0), (2, .long v2), (4, .long v4)]) hx hb d_Model_floor_28 hl (by decide) rfl (fun ls hl => ?_)
  refine lv_lload_n hx hb d_Model_floor_30 rfl (lv_at hl 1 rfl) ?_
  refine lv_lload_n hx hb d_Model_floor_31 rfl (lv_at hl 2 rfl) ?_
  refine lv_lconst (v := 0) hx hb d_Model_floor_32 (by decide) ?_
  refine W.lcmp hx hb d_Model_floor_33 ?_
  refine lv_if_ne (tgt := 41) hx hb d_Model_floor_34 (by decide) (fun c_1 => ?_) (fun c_1 => ?_)
  · replace hm := if_f c_1 hm
    refine lv_lload hx hb d_Model_floor_41 (lv_at hl 0 rfl) ?_
    exact lb_Model_floor_43 l n hx hb hml hown hts hA hr hlocks _ _ _ hm _ _ _ hS (lv_sub hl [3] rfl)
  · replace hm := if_t c_1 hm
    refine lv_lconst (v := 0) hx hb d_Model_floor_37 (by decide) ?_
    refine lv_goto (tgt := 43) hx hb d_Model_floor_38 (by decide) ?_
    exact lb_Model_floor_43 l n hx hb hml hown hts hA hr hlocks _ _ _ hm _ _ _ hS (lv_sub hl [3] rfl)
def m_Model_floor (n : Nat) (v0 : Int64) (v2 : Int64) (v4 : Int64) : Option (Int32) := ob0 (m_Model_root n ((3 * v2) * v2)) (fun r_2 => if ((0 : Int32)) ≤ ((lg_cmp v2 0)) then m_Model_floor_b28 n v0 v2 v4 r_2 else m_Model_floor_b28 n v0 v2 v4 ((-r_2) - 1))
set_option maxHeartbeats 4000000 in
set_option maxRecDepth 100000 in
theorem x_Model_floor (l : Launch) (sz : Nat) (n : Nat) {v0 : Int64} {v2 : Int64} {v4 : Int64} {r2 : Int32} (hm : m_Model_floor n v0 v2 v4 = some r2) : Met l y_Model_floor w_Model_floor ({ frames := 1, cells := 0, slots := 0, locals := 25 } : Room) (va_Pc [.long v0, .long v2, .long v4] (xE0 sz)) (va_Qi (xR r2) xT (xN sz)) 0 0 (xN sz) := by
  refine Met.ofW (cc := b_Model_floor) (maxL := 10) (ret := (some .int)) (by decide) rfl ?_
  intro p e s m args below meth c s₁ B hml hv
  obtain ⟨rfl, hsz⟩ := hv
  have hx := B.exec
  have hb := B.bytes
  have hr := B.returns
  have hts := atoms_spec (ws := w_Model_floor) B.pre
  have htt : ∀ w ∈ tw_T, w.before _ s = true := fun w h => hts w (List.mem_cons_of_mem _ h)
  have hown : s.vm.findClass R_Model = some m.cls := findClass_of_methodNamed B.named
  have hlocks := B.notSynchronized
  subst hsz
  generalize hAe : xN s.heap.size = A
  have hA : ∀ q : Nat, s.heap.size ≤ q → A q := fun q h => by rw [← hAe]; exact Or.inr h
  have hS : va_S A s.heap s.heap [] := va_S.rf
  have hl := lv_entry ([.long v0, .long v2, .long v4]) (n := 10) (Nat.le_of_ble_eq_true rfl)
  rw [lg_entry_eq]
  generalize (lg_sl ([.long v0, .long v2, .long v4]) ++ List.replicate (10 - (lg_sl ([.long v0, .long v2, .long v4])).length) Slot.unset).toArray = ls at hl ⊢
  have hl : lv_has ls 10 [(0, .long v0), (2, .long v2), (4, .long v4)] := hl
  rw [m_Model_floor] at hm
  refine lv_ldc2 (v := 3) hx hb hown (htt _ lk_Model_7) d_Model_floor_0 ?_
  refine lv_lload_n hx hb d_Model_floor_3 rfl (lv_at hl 1 rfl) ?_
  refine lv_lmul hx hb d_Model_floor_4 ?_
  refine lv_lload_n hx hb d_Model_floor_5 rfl (lv_at hl 1 rfl) ?_
  refine lv_lmul hx hb d_Model_floor_6 ?_
  obtain ⟨r_2, h_1, hm⟩ := ob0_some hm
  have hFc := x_free0 hS hA
  refine va_calll (va_runS (As := [.long ((3 * v2) * v2)]) (rest := []) ⟨hx, hb, hml, hown, hts⟩ (x_Model_root l s.heap.size n h_1) (va_cwS 1 hts (tw_GS tw_cons cw_Model_root lk_Model_795 st_Model_root ini_Model) rfl rfl rfl hd_Model_root ⟨Nat.le_of_ble_eq_true rfl, Nat.le_of_ble_eq_true rfl⟩) xpS0 rfl rfl hl.1 rfl (lv_room (Nat.le_of_ble_eq_true rfl)) d_Model_floor_7 ⟨Nat.le_of_ble_eq_true rfl, Nat.le_of_ble_eq_true rfl⟩) hS (fun q _ h => hFc q h) hFc (fun r9 u9 t9 H locs ht hvm e9 hB hz1 hk1 hS => ?_)
  have e9 : r_2 = r9 := e9
  subst e9
  clear hFc hk1 hz1 hvm hB ht
  refine lv_lstore (lv' := [(6, .long r_2), (0, .long v0), (2, .long v2), (4, .long v4)]) hx hb d_Model_floor_10 hl (by decide) rfl (fun ls hl => ?_)
  refine lv_lload_n hx hb d_Model_floor_12 rfl (lv_at hl 2 rfl) ?_
  refine lv_lconst (v := 0) hx hb d_Model_floor_13 (by decide) ?_
  refine W.lcmp hx hb d_Model_floor_14 ?_
  refine lv_if_ge (tgt := 26) hx hb d_Model_floor_15 (by decide) (fun c_3 => ?_) (fun c_3 => ?_)
  · replace hm := if_t c_3 hm
    refine lv_lload hx hb d_Model_floor_26 (lv_at hl 0 rfl) ?_
    exact lb_Model_floor_28 l n hx hb hml hown hts hA hr hlocks _ _ _ _ hm _ _ _ hS (lv_sub hl [1, 2, 3] rfl)
  · replace hm := if_f c_3 hm
    refine lv_lload hx hb d_Model_floor_18 (lv_at hl 0 rfl) ?_
    refine lv_lneg hx hb d_Model_floor_20 ?_
    refine lv_lconst (v := 1) hx hb d_Model_floor_21 (by decide) ?_
    refine lv_lsub hx hb d_Model_floor_22 ?_
    refine lv_goto (tgt := 28) hx hb d_Model_floor_23 (by decide) ?_
    exact lb_Model_floor_28 l n hx hb hml hown hts hA hr hlocks _ _ _ _ hm _ _ _ hS (lv_sub hl [1, 2, 3] rfl)

def m_Model_member (n : Nat) (i : Nat → Int32) (j : Nat → Int64) (a : Nat → Nat → Int32) (b : Nat → Nat → Int64) (v1 : Int64) (v3 : Int32) : Option (Int64) := ob0 (m_Model_what n v1) (fun r_2 => ck r_2 90000 (ck (((a 12 r_2.toNatClampNeg) + v3)) 90000 (some (b 10 ((a 12 r_2.toNatClampNeg) + v3).toNatClampNeg))))
set_option maxHeartbeats 4000000 in
set_option maxRecDepth 100000 in
theorem x_Model_member (l : Launch) (dC : Nat → ClassId) (dI : Nat → Nat → Nat) (cI cJ cB : ClassId) (adK adV adA : Nat → Nat) (h : Nat) (v : Nat → Nat) (sz : Nat) (n : Nat) {i : Nat → Int32} {j : Nat → Int64} {a : Nat → Nat → Int32} {b : Nat → Nat → Int64} {v1 : Int64} {v3 : Int32} {r2 : Int64} (hm : m_Model_member n i j a b v1 v3 = some r2) : Met l y_Model_member w_Model_member ({ frames := 1, cells := 0, slots := 0, locals := 21 } : Room) (va_Pc [.ref h, .long v1, .int v3] (yEr dC dI cI cJ cB adK adV adA h v i j a b sz)) (va_Ql (xR r2) xT (xN sz)) 0 0 (xN sz) := by
  refine Met.ofW (cc := b_Model_member) (maxL := 4) (ret := (some .long)) (by decide) rfl ?_
  intro p e s m args below meth c s₁ B hml hv
  obtain ⟨rfl, hsz, hP, hK, hE⟩ := hv
  have hx := B.exec
  have hb := B.bytes
  have hr := B.returns
  have hts := atoms_spec (ws := w_Model_member) B.pre
  have htt : ∀ w ∈ tw_T, w.before _ s = true := fun w h => hts w (List.mem_cons_of_mem _ h)
  have hown : s.vm.findClass R_Model = some m.cls := findClass_of_methodNamed B.named
  have hlocks := B.notSynchronized
  subst hsz
  generalize hAe : xN s.heap.size = A at hE ⊢
  have hA : ∀ q : Nat, s.heap.size ≤ q → A q := fun q h => by rw [← hAe]; exact Or.inr h
  have hS : va_S A s.heap s.heap [] := va_S.rf
  have hl := lv_entry ([.ref h, .long v1, .int v3]) (n := 4) (Nat.le_of_ble_eq_true rfl)
  rw [lg_entry_eq]
  generalize (lg_sl ([.ref h, .long v1, .int v3]) ++ List.replicate (4 - (lg_sl ([.ref h, .long v1, .int v3])).length) Slot.unset).toArray = ls at hl ⊢
  have hl : lv_has ls 4 [(0, .ref h), (1, .long v1), (3, .int v3)] := hl
  rw [m_Model_member] at hm
  refine lv_aload_n hx hb d_Model_member_0 rfl (lv_at hl 0 rfl) ?_
  refine va_get (D := (dC, dI)) (ci := 12) (v := .ref ((v 10))) (C := R_Model) (T := F_Model) (N := 127) hx hb htt iw_Model hown hK hP 0 yo_12 rfl 10 (Nat.le_of_ble_eq_true rfl) (htt _ lk_Model_35) (fun _ h9 => h9) yg_10 d_Model_member_1 ?_
  refine lv_aload_n hx hb d_Model_member_4 rfl (lv_at hl 0 rfl) ?_
  refine va_get (D := (dC, dI)) (ci := 12) (v := .ref ((v 12))) (C := R_Model) (T := F_Model) (N := 127) hx hb htt iw_Model hown hK hP 0 yo_12 rfl 12 (Nat.le_of_ble_eq_true rfl) (htt _ lk_Model_41) (fun _ h9 => h9) yg_12 d_Model_member_5 ?_
  refine lv_lload_n hx hb d_Model_member_8 rfl (lv_at hl 1 rfl) ?_
  obtain ⟨r_2, h_1, hm⟩ := ob0_some hm
  have hFc := x_free0 hS hA
  refine va_calli (va_runS (As := [.long v1]) (rest := [.ref ((v 12)), .ref ((v 10))]) ⟨hx, hb, hml, hown, hts⟩ (x_Model_what l s.heap.size n h_1) (va_cwS 1 hts (tw_GS tw_cons cw_Model_what lk_Model_64 st_Model_what ini_Model) rfl rfl rfl hd_Model_what ⟨Nat.le_of_ble_eq_true rfl, Nat.le_of_ble_eq_true rfl⟩) xpS0 rfl rfl hl.1 rfl (lv_room (Nat.le_of_ble_eq_true rfl)) d_Model_member_9 ⟨Nat.le_of_ble_eq_true rfl, Nat.le_of_ble_eq_true rfl⟩) hS (fun q _ h => hFc q h) hFc (fun r9 u9 t9 H locs ht hvm e9 hB hz1 hk1 hS => ?_)
  have e9 : r_2 = r9 := e9
  subst e9
  replace hP := x_keep hP hk1
  clear hFc hk1 hz1 hvm hB ht
  obtain ⟨h_3, hm⟩ := ck_some hm
  refine va_iald hx hb hK hP 12 0 ya_12 rfl h_3 d_Model_member_12 ?_
  refine lv_iload_n hx hb d_Model_member_13 rfl (lv_at hl 2 rfl) ?_
  refine lv_iadd hx hb d_Model_member_14 ?_
  obtain ⟨h_4, hm⟩ := ck_some hm
  refine va_lald hx hb hK hP 10 1 ya_10 rfl h_4 d_Model_member_15 ?_
  have e3 := re1 hm
  exact W.lret hx hb hr (fun t9 ht hW => ⟨⟨_, (), rfl, e3.symm, trivial⟩, hS.F ht⟩) hS.2.2 d_Model_member_16

def m_Model_isTrue (n : Nat) (i : Nat → Int32) (j : Nat → Int64) (a : Nat → Nat → Int32) (b : Nat → Nat → Int64) (v1 : Int64) : Option (Int32) := ob0 (m_Model_what n v1) (fun r_2 => ob0 (m_Model_isText n i j a b r_2 (11 : Nat)) (fun r_4 => cb r_4 (some r_4)))
set_option maxHeartbeats 4000000 in
set_option maxRecDepth 100000 in
theorem x_Model_isTrue (l : Launch) (dC : Nat → ClassId) (dI : Nat → Nat → Nat) (cI cJ cB : ClassId) (adK adV adA : Nat → Nat) (h : Nat) (v : Nat → Nat) (sz : Nat) (n : Nat) {i : Nat → Int32} {j : Nat → Int64} {a : Nat → Nat → Int32} {b : Nat → Nat → Int64} {v1 : Int64} {r2 : Int32} (hm : m_Model_isTrue n i j a b v1 = some r2) : Met l y_Model_isTrue w_Model_isTrue ({ frames := 5, cells := 0, slots := 0, locals := 108 } : Room) (va_Pc [.ref h, .long v1] (yEr dC dI cI cJ cB adK adV adA h v i j a b sz)) (va_Qi (xR r2) xT (xN sz)) 0 0 (xN sz) := by
  refine Met.ofW (cc := b_Model_isTrue) (maxL := 3) (ret := (some .boolean)) (by decide) rfl ?_
  intro p e s m args below meth c s₁ B hml hv
  obtain ⟨rfl, hsz, hP, hK, hE⟩ := hv
  have hx := B.exec
  have hb := B.bytes
  have hr := B.returns
  have hts := atoms_spec (ws := w_Model_isTrue) B.pre
  have htt : ∀ w ∈ tw_T, w.before _ s = true := fun w h => hts w (List.mem_cons_of_mem _ h)
  have hown : s.vm.findClass R_Model = some m.cls := findClass_of_methodNamed B.named
  have hlocks := B.notSynchronized
  subst hsz
  generalize hAe : xN s.heap.size = A at hE ⊢
  have hA : ∀ q : Nat, s.heap.size ≤ q → A q := fun q h => by rw [← hAe]; exact Or.inr h
  have hS : va_S A s.heap s.heap [] := va_S.rf
  have hl := lv_entry ([.ref h, .long v1]) (n := 3) (Nat.le_of_ble_eq_true rfl)
  rw [lg_entry_eq]
  generalize (lg_sl ([.ref h, .long v1]) ++ List.replicate (3 - (lg_sl ([.ref h, .long v1])).length) Slot.unset).toArray = ls at hl ⊢
  have hl : lv_has ls 3 [(0, .ref h), (1, .long v1)] := hl
  rw [m_Model_isTrue] at hm
  refine lv_aload_n hx hb d_Model_isTrue_0 rfl (lv_at hl 0 rfl) ?_
  refine lv_lload_n hx hb d_Model_isTrue_1 rfl (lv_at hl 1 rfl) ?_
  obtain ⟨r_2, h_1, hm⟩ := ob0_some hm
  have hFc := x_free0 hS hA
  refine va_calli (va_runS (As := [.long v1]) (rest := [.ref h]) ⟨hx, hb, hml, hown, hts⟩ (x_Model_what l s.heap.size n h_1) (va_cwS 1 hts (tw_GS tw_cons cw_Model_what lk_Model_64 st_Model_what ini_Model) rfl rfl rfl hd_Model_what ⟨Nat.le_of_ble_eq_true rfl, Nat.le_of_ble_eq_true rfl⟩) xpS0 rfl rfl hl.1 rfl (lv_room (Nat.le_of_ble_eq_true rfl)) d_Model_isTrue_2 ⟨Nat.le_of_ble_eq_true rfl, Nat.le_of_ble_eq_true rfl⟩) hS (fun q _ h => hFc q h) hFc (fun r9 u9 t9 H locs ht hvm e9 hB hz1 hk1 hS => ?_)
  have e9 : r_2 = r9 := e9
  subst e9
  replace hP := x_keep hP hk1
  clear hFc hk1 hz1 hvm hB ht
  refine tw_ldcwS hx hb hown (show vk_R "TurtleWorldModel" 574 _ (adK 11) s from hE.ref 11 (by decide)) d_Model_isTrue_5 ?_
  obtain ⟨r_4, h_3, hm⟩ := ob0_some hm
  have hFc := x_free0 hS hA
  refine va_calli (va_runV (As := [.int r_2, .ref (adK 11)]) (rest := []) ⟨hx, hb, hml, hown, hts⟩ (x_Model_isText l dC dI cI cJ cB adK adV adA h v H.size n h_3) (cwV 2 hts (tw_GV tw_cons cw_Model_isText lk_Model_473 in_Model_isText sel_Model_isText ini_Model) rfl rfl rfl ⟨rfl, hd_Model_isText⟩ ⟨Nat.le_of_ble_eq_true rfl, Nat.le_of_ble_eq_true rfl⟩) (ypVr hK hP hS hE hFc yo_12 rfl) rfl rfl hl.1 rfl (lv_room (Nat.le_of_ble_eq_true rfl)) d_Model_isTrue_8 ⟨Nat.le_of_ble_eq_true rfl, Nat.le_of_ble_eq_true rfl⟩) hS (fun q _ h => hFc q h) hFc (fun r9 u9 t9 H locs ht hvm e9 hB hz1 hk1 hS => ?_)
  have e9 : r_4 = r9 := e9
  subst e9
  replace hP := x_keep hP hk1
  clear hFc hk1 hz1 hvm hB ht
  obtain ⟨h_5, h_5f, hm⟩ := cb_some hm
  have e3 := re1 hm
  exact W.zret hx hb hr h_5 (fun t9 ht hW => ⟨⟨_, (), rfl, e3.symm, trivial⟩, hS.F ht⟩) hS.2.2 d_Model_isTrue_11

def m_Model_numbers_b247 (n : Nat) (i : Nat → Int32) (j : Nat → Int64) (a : Nat → Nat → Int32) (b : Nat → Nat → Int64)  : Option ((Nat → Int32) × (Nat → Int64) × (Nat → Nat → Int32) × (Nat → Nat → Int64) × Int64) := om (m_Model_fails n i j a b (9 : Int32)) (fun i_2 j_3 a_4 b_5 r_6 => some (i_2, j_3, a_4, b_5, r_6))
set_option maxHeartbeats 4000000 in
set_option maxRecDepth 100000 in
theorem lb_Model_numbers_247 (l : Launch) (dC : Nat → ClassId) (dI : Nat → Nat → Nat) (cI cJ cB : ClassId) (adK adV adA : Nat → Nat) (h : Nat) (v : Nat → Nat) (n : Nat) {p : Program} {e : Env} {s : State} {m : MethodId} {args : Array Value} {below : List Frame} {meth : Method} {c : Code} {A : Nat → Prop} (hx : p.tables.exec = Jvm.exec) (hb : c.code = b_Model_numbers) (hml : c.maxLocals = 6) (hown : s.vm.findClass R_Model = some m.cls) (hts : ∀ w ∈ w_Model_numbers, w.before args s = true) (hK : va_K (dC, dI) classes [(cI, .int), (cJ, .long), (cB, .byte)] s) (hE : tw_E adK adV adA A s s.heap) (hA : ∀ q : Nat, s.heap.size ≤ q → A q) (hr : meth.sig.returnType = (some .long)) (hlocks : meth.locks = false) {i2 : Nat → Int32} {j2 : Nat → Int64} {a2 : Nat → Nat → Int32} {b2 : Nat → Nat → Int64} {r2 : Int64} (i : Nat → Int32) (j : Nat → Int64) (a : Nat → Nat → Int32) (b : Nat → Nat → Int64)  (hm : m_Model_numbers_b247 n i j a b = some (i2, j2, a2, b2, r2)) : ∀ (H : Heap) (locs : List Loc) (ls : Array Slot), va_P (dC, dI) classes (MW cI cJ cB h v i j a b) H → va_D A (MW cI cJ cB h v i j a b) → va_S A s.heap H locs → lv_has ls 6 [(0, .ref h)] → W p l e ({ frames := 1, cells := 0, slots := 0, locals := 21 } : Room) s m args below meth c H locs 0 0 (MQ below (va_Ql (xR r2) (yB dC dI cI cJ cB h v i2 j2 a2 b2 A) A) args s 0 0 A) (F0 m 247 ls []) := by
  have htt : ∀ w ∈ tw_T, w.before _ s = true := fun w h => hts w (List.mem_cons_of_mem _ h)
  intro H locs ls hP hD hS hl
  rw [m_Model_numbers_b247] at hm
  refine lv_aload_n hx hb d_Model_numbers_247 rfl (lv_at hl 0 rfl) ?_
  refine lv_bipush (v := 9) hx hb d_Model_numbers_248 (by decide) ?_
  obtain ⟨i_2, j_3, a_4, b_5, r_6, h_1, hm⟩ := om_some hm
  have hFc := x_free hD hS hA
  refine va_calll (va_runV (As := [.int 9]) (rest := []) ⟨hx, hb, hml, hown, hts⟩ (x_Model_fails l dC dI cI cJ cB adK adV adA h v H.size n h_1) (cwV 1 hts (tw_GV tw_cons cw_Model_fails lk_Model_596 in_Model_fails sel_Model_fails ini_Model) rfl rfl rfl ⟨rfl, hd_Model_fails⟩ ⟨Nat.le_of_ble_eq_true rfl, Nat.le_of_ble_eq_true rfl⟩) (ypV hK hP hD hS hE hFc yo_12 rfl) rfl rfl hl.1 rfl (lv_room (Nat.le_of_ble_eq_true rfl)) d_Model_numbers_250 ⟨Nat.le_of_ble_eq_true rfl, Nat.le_of_ble_eq_true rfl⟩) hS (fun q _ h => hFc q h) hFc (fun r9 u9 t9 H locs ht hvm e9 hB hz1 hk1 hS => ?_)
  have e9 : r_6 = r9 := e9
  subst e9
  obtain ⟨hP, hD⟩ := y_aft hB ht hFc
  clear hFc hk1 hz1 hvm hB ht
  refine lv_goto (tgt := 262) hx hb d_Model_numbers_253 (by decide) ?_
  obtain ⟨e1i, e1j, e1a, e1b, e3⟩ := re4m hm
  obtain ⟨hP, hD⟩ := y_eq e1i e1j e1a e1b hP hD
  exact W.lret hx hb hr (fun t9 ht hW => ⟨⟨_, (), rfl, e3.symm, by rw [ht]; exact hP, hD⟩, hS.F ht⟩) hS.2.2 d_Model_numbers_262
def m_Model_numbers_b229 (n : Nat) (i : Nat → Int32) (j : Nat → Int64) (a : Nat → Nat → Int32) (b : Nat → Nat → Int64) (v4 : Int64) : Option ((Nat → Int32) × (Nat → Int64) × (Nat → Nat → Int32) × (Nat → Nat → Int64) × Int64) := if ((0 : Int32)) < ((lg_cmp v4 1000000000)) then m_Model_numbers_b247 n i j a b else if ((0 : Int32)) ≤ ((lg_cmp v4 ((-1000000000)))) then ob0 (m_Model_number n v4.toInt32) (fun r_4 => some (i, j, a, b, r_4)) else m_Model_numbers_b247 n i j a b
set_option maxHeartbeats 4000000 in
set_option maxRecDepth 100000 in
theorem lb_Model_numbers_229 (l : Launch) (dC : Nat → ClassId) (dI : Nat → Nat → Nat) (cI cJ cB : ClassId) (adK adV adA : Nat → Nat) (h : Nat) (v : Nat → Nat) (n : Nat) {p : Program} {e : Env} {s : State} {m : MethodId} {args : Array Value} {below : List Frame} {meth : Method} {c : Code} {A : Nat → Prop} (hx : p.tables.exec = Jvm.exec) (hb : c.code = b_Model_numbers) (hml : c.maxLocals = 6) (hown : s.vm.findClass R_Model = some m.cls) (hts : ∀ w ∈ w_Model_numbers, w.before args s = true) (hK : va_K (dC, dI) classes [(cI, .int), (cJ, .long), (cB, .byte)] s) (hE : tw_E adK adV adA A s s.heap) (hA : ∀ q : Nat, s.heap.size ≤ q → A q) (hr : meth.sig.returnType = (some .long)) (hlocks : meth.locks = false) {i2 : Nat → Int32} {j2 : Nat → Int64} {a2 : Nat → Nat → Int32} {b2 : Nat → Nat → Int64} {r2 : Int64} (i : Nat → Int32) (j : Nat → Int64) (a : Nat → Nat → Int32) (b : Nat → Nat → Int64) (v4 : Int64) (hm : m_Model_numbers_b229 n i j a b v4 = some (i2, j2, a2, b2, r2)) : ∀ (H : Heap) (locs : List Loc) (ls : Array Slot), va_P (dC, dI) classes (MW cI cJ cB h v i j a b) H → va_D A (MW cI cJ cB h v i j a b) → va_S A s.heap H locs → lv_has ls 6 [(0, .ref h), (4, .long v4)] → W p l e ({ frames := 1, cells := 0, slots := 0, locals := 21 } : Room) s m args below meth c H locs 0 0 (MQ below (va_Ql (xR r2) (yB dC dI cI cJ cB h v i2 j2 a2 b2 A) A) args s 0 0 A) (F0 m 229 ls []) := by
  have htt : ∀ w ∈ tw_T, w.before _ s = true := fun w h => hts w (List.mem_cons_of_mem _ h)
  intro H locs ls hP hD hS hl
  rw [m_Model_numbers_b229] at hm
  refine lv_lload hx hb d_Model_numbers_229 (lv_at hl 1 rfl) ?_
  refine lv_ldc2 (v := 1000000000) hx hb hown (htt _ lk_Model_144) d_Model_numbers_231 ?_
  refine W.lcmp hx hb d_Model_numbers_234 ?_
  refine lv_if_gt (tgt := 247) hx hb d_Model_numbers_235 (by decide) (fun c_1 => ?_) (fun c_1 => ?_)
  · replace hm := if_t c_1 hm
    exact lb_Model_numbers_247 l dC dI cI cJ cB adK adV adA h v n hx hb hml hown hts hK hE hA hr hlocks _ _ _ _ hm _ _ _ hP hD hS (lv_sub hl [0] rfl)
  · replace hm := if_f c_1 hm
    refine lv_lload hx hb d_Model_numbers_238 (lv_at hl 1 rfl) ?_
    refine lv_ldc2 (v := (-1000000000)) hx hb hown (htt _ lk_Model_739) d_Model_numbers_240 ?_
    refine W.lcmp hx hb d_Model_numbers_243 ?_
    refine lv_if_ge (tgt := 256) hx hb d_Model_numbers_244 (by decide) (fun c_2 => ?_) (fun c_2 => ?_)
    · replace hm := if_t c_2 hm
      refine lv_lload hx hb d_Model_numbers_256 (lv_at hl 1 rfl) ?_
      refine lv_l2i hx hb d_Model_numbers_258 rfl ?_
      obtain ⟨r_4, h_3, hm⟩ := ob0_some hm
      have hFc := x_free0 hS hA
      refine va_calll (va_runS (As := [.int v4.toInt32]) (rest := []) ⟨hx, hb, hml, hown, hts⟩ (x_Model_number l H.size n h_3) (va_cwS 1 hts (tw_GS tw_cons cw_Model_number lk_Model_451 st_Model_number ini_Model) rfl rfl rfl hd_Model_number ⟨Nat.le_of_ble_eq_true rfl, Nat.le_of_ble_eq_true rfl⟩) xpS0 rfl rfl hl.1 rfl (lv_room (Nat.le_of_ble_eq_true rfl)) d_Model_numbers_259 ⟨Nat.le_of_ble_eq_true rfl, Nat.le_of_ble_eq_true rfl⟩) hS (fun q _ h => hFc q h) hFc (fun r9 u9 t9 H locs ht hvm e9 hB hz1 hk1 hS => ?_)
      have e9 : r_4 = r9 := e9
      subst e9
      replace hP := x_keep hP hk1
      clear hFc hk1 hz1 hvm hB ht
      obtain ⟨e1i, e1j, e1a, e1b, e3⟩ := re4m hm
      obtain ⟨hP, hD⟩ := y_eq e1i e1j e1a e1b hP hD
      exact W.lret hx hb hr (fun t9 ht hW => ⟨⟨_, (), rfl, e3.symm, by rw [ht]; exact hP, hD⟩, hS.F ht⟩) hS.2.2 d_Model_numbers_262
    · replace hm := if_f c_2 hm
      exact lb_Model_numbers_247 l dC dI cI cJ cB adK adV adA h v n hx hb hml hown hts hK hE hA hr hlocks _ _ _ _ hm _ _ _ hP hD hS (lv_sub hl [0] rfl)
def m_Model_numbers_b23 (n : Nat) (i : Nat → Int32) (j : Nat → Int64) (a : Nat → Nat → Int32) (b : Nat → Nat → Int64) (v1 : Int32) (v2 : Int32) (v3 : Int32) : Option ((Nat → Int32) × (Nat → Int64) × (Nat → Nat → Int32) × (Nat → Nat → Int64) × Int64) := if v1 = 19 then ob1 (v2.toInt64 + v3.toInt64 : Int64) (fun x_2 => m_Model_numbers_b229 n i j a b x_2) else if v1 = 20 then ob1 (v2.toInt64 - v3.toInt64 : Int64) (fun x_4 => m_Model_numbers_b229 n i j a b x_4) else if v1 = 21 then ob1 (v2.toInt64 * v3.toInt64 : Int64) (fun x_6 => m_Model_numbers_b229 n i j a b x_6) else if v1 = 22 then cz v3 (ob1 ((v2 / v3).toInt64 : Int64) (fun x_9 => m_Model_numbers_b229 n i j a b x_9)) else if v1 = 23 then cz v3 (ob1 ((v2 - v2 / v3 * v3).toInt64 : Int64) (fun x_12 => m_Model_numbers_b229 n i j a b x_12)) else if v1 = 24 then ob1 ((-v2).toInt64 : Int64) (fun x_14 => m_Model_numbers_b229 n i j a b x_14) else if v1 = 25 then if v3 ≤ v2 then ob0 (m_Model_truth n i j a b (0 : Int32)) (fun r_18 => some (i, j, a, b, r_18)) else ob0 (m_Model_truth n i j a b (1 : Int32)) (fun r_20 => some (i, j, a, b, r_20)) else if v1 = 26 then if v2 ≤ v3 then ob0 (m_Model_truth n i j a b (0 : Int32)) (fun r_24 => some (i, j, a, b, r_24)) else ob0 (m_Model_truth n i j a b (1 : Int32)) (fun r_26 => some (i, j, a, b, r_26)) else if ((1 : Int32)) ≤ v2 then ob1 ((i 46) ^^^ ((i 46) <<< ((13 : Int32) &&& 31)) : Int32) (fun x_28 => ob1 (upd i 46 x_28 : Nat → Int32) (fun i_29 => ob1 ((i_29 46) ^^^ (((i_29 46).toUInt32 >>> ((17 : Int32).toUInt32 &&& Int32.toUInt32 31)).toInt32) : Int32) (fun x_30 => ob1 (upd i_29 46 x_30 : Nat → Int32) (fun i_31 => ob1 ((i_31 46) ^^^ ((i_31 46) <<< ((5 : Int32) &&& 31)) : Int32) (fun x_32 => ob1 (upd i_31 46 x_32 : Nat → Int32) (fun i_33 => cz v2 (ob1 ((((i_33 46) &&& 2147483647) - ((i_33 46) &&& 2147483647) / v2 * v2).toInt64 : Int64) (fun x_35 => m_Model_numbers_b229 n i_33 j a b x_35)))))))) else om (m_Model_fails n i j a b (3 : Int32)) (fun i_37 j_38 a_39 b_40 r_41 => some (i_37, j_38, a_39, b_40, r_41))
set_option maxHeartbeats 4000000 in
set_option maxRecDepth 100000 in
theorem lb_Model_numbers_23 (l : Launch) (dC : Nat → ClassId) (dI : Nat → Nat → Nat) (cI cJ cB : ClassId) (adK adV adA : Nat → Nat) (h : Nat) (v : Nat → Nat) (n : Nat) {p : Program} {e : Env} {s : State} {m : MethodId} {args : Array Value} {below : List Frame} {meth : Method} {c : Code} {A : Nat → Prop} (hx : p.tables.exec = Jvm.exec) (hb : c.code = b_Model_numbers) (hml : c.maxLocals = 6) (hown : s.vm.findClass R_Model = some m.cls) (hts : ∀ w ∈ w_Model_numbers, w.before args s = true) (hK : va_K (dC, dI) classes [(cI, .int), (cJ, .long), (cB, .byte)] s) (hE : tw_E adK adV adA A s s.heap) (hA : ∀ q : Nat, s.heap.size ≤ q → A q) (hr : meth.sig.returnType = (some .long)) (hlocks : meth.locks = false) {i2 : Nat → Int32} {j2 : Nat → Int64} {a2 : Nat → Nat → Int32} {b2 : Nat → Nat → Int64} {r2 : Int64} (i : Nat → Int32) (j : Nat → Int64) (a : Nat → Nat → Int32) (b : Nat → Nat → Int64) (v1 : Int32) (v2 : Int32) (v3 : Int32) (hm : m_Model_numbers_b23 n i j a b v1 v2 v3 = some (i2, j2, a2, b2, r2)) : ∀ (H : Heap) (locs : List Loc) (ls : Array Slot), va_P (dC, dI) classes (MW cI cJ cB h v i j a b) H → va_D A (MW cI cJ cB h v i j a b) → va_S A s.heap H locs → lv_has ls 6 [(0, .ref h), (1, .int v1), (2, .int v2), (3, .int v3)] → W p l e ({ frames := 1, cells := 0, slots := 0, locals := 21 } : Room) s m args below meth c H locs 0 0 (MQ below (va_Ql (xR r2) (yB dC dI cI cJ cB h v i2 j2 a2 b2 A) A) args s 0 0 A) (F0 m 23 ls []) := by
  have htt : ∀ w ∈ tw_T, w.before _ s = true := fun w h => hts w (List.mem_cons_of_mem _ h)
  intro H locs ls hP hD hS hl
  rw [m_Model_numbers_b23] at hm
  refine lv_iload_n hx hb d_Model_numbers_23 rfl (lv_at hl 1 rfl) ?_
  rcases Classical.em (v1 = 19) with c_1 | c_1
  · replace hm := if_t c_1 hm
    refine lv_tableIn (x := v1) (tgt := 72) hx hb d_Model_numbers_24 (by rw [c_1]; decide) (by rw [c_1]; decide) (by rw [c_1]; rfl) (by decide) ?_
    refine lv_iload_n hx hb d_Model_numbers_72 rfl (lv_at hl 2 rfl) ?_
    refine lv_i2l hx hb d_Model_numbers_73 rfl ?_
    refine lv_iload_n hx hb d_Model_numbers_74 rfl (lv_at hl 3 rfl) ?_
    refine lv_i2l hx hb d_Model_numbers_75 rfl ?_
    refine lv_ladd hx hb d_Model_numbers_76 ?_
    refine lv_topl (fun x_2 ex_2 => ?_)
    replace hm := ob1_at ex_2 hm
    refine lv_lstore (lv' := [(4, .long x_2), (0, .ref h), (1, .int v1), (2, .int v2), (3, .int v3)]) hx hb d_Model_numbers_77 hl (by decide) rfl (fun ls hl => ?_)
    refine lv_goto (tgt := 229) hx hb d_Model_numbers_79 (by decide) ?_
    exact lb_Model_numbers_229 l dC dI cI cJ cB adK adV adA h v n hx hb hml hown hts hK hE hA hr hlocks _ _ _ _ _ hm _ _ _ hP hD hS (lv_sub hl [1, 0] rfl)
  replace hm := if_f c_1 hm
  rcases Classical.em (v1 = 20) with c_3 | c_3
  · replace hm := if_t c_3 hm
    refine lv_tableIn (x := v1) (tgt := 82) hx hb d_Model_numbers_24 (by rw [c_3]; decide) (by rw [c_3]; decide) (by rw [c_3]; rfl) (by decide) ?_
    refine lv_iload_n hx hb d_Model_numbers_82 rfl (lv_at hl 2 rfl) ?_
    refine lv_i2l hx hb d_Model_numbers_83 rfl ?_
    refine lv_iload_n hx hb d_Model_numbers_84 rfl (lv_at hl 3 rfl) ?_
    refine lv_i2l hx hb d_Model_numbers_85 rfl ?_
    refine lv_lsub hx hb d_Model_numbers_86 ?_
    refine lv_topl (fun x_4 ex_4 => ?_)
    replace hm := ob1_at ex_4 hm
    refine lv_lstore (lv' := [(4, .long x_4), (0, .ref h), (1, .int v1), (2, .int v2), (3, .int v3)]) hx hb d_Model_numbers_87 hl (by decide) rfl (fun ls hl => ?_)
    refine lv_goto (tgt := 229) hx hb d_Model_numbers_89 (by decide) ?_
    exact lb_Model_numbers_229 l dC dI cI cJ cB adK adV adA h v n hx hb hml hown hts hK hE hA hr hlocks _ _ _ _ _ hm _ _ _ hP hD hS (lv_sub hl [1, 0] rfl)
  replace hm := if_f c_3 hm
  rcases Classical.em (v1 = 21) with c_5 | c_5
  · replace hm := if_t c_5 hm
    refine lv_tableIn (x := v1) (tgt := 92) hx hb d_Model_numbers_24 (by rw [c_5]; decide) (by rw [c_5]; decide) (by rw [c_5]; rfl) (by decide) ?_
    refine lv_iload_n hx hb d_Model_numbers_92 rfl (lv_at hl 2 rfl) ?_
    refine lv_i2l hx hb d_Model_numbers_93 rfl ?_
    refine lv_iload_n hx hb d_Model_numbers_94 rfl (lv_at hl 3 rfl) ?_
    refine lv_i2l hx hb d_Model_numbers_95 rfl ?_
    refine lv_lmul hx hb d_Model_numbers_96 ?_
    refine lv_topl (fun x_6 ex_6 => ?_)
    replace hm := ob1_at ex_6 hm
    refine lv_lstore (lv' := [(4, .long x_6), (0, .ref h), (1, .int v1), (2, .int v2), (3, .int v3)]) hx hb d_Model_numbers_97 hl (by decide) rfl (fun ls hl => ?_)
    refine lv_goto (tgt := 229) hx hb d_Model_numbers_99 (by decide) ?_
    exact lb_Model_numbers_229 l dC dI cI cJ cB adK adV adA h v n hx hb hml hown hts hK hE hA hr hlocks _ _ _ _ _ hm _ _ _ hP hD hS (lv_sub hl [1, 0] rfl)
  replace hm := if_f c_5 hm
  rcases Classical.em (v1 = 22) with c_7 | c_7
  · replace hm := if_t c_7 hm
    refine lv_tableIn (x := v1) (tgt := 102) hx hb d_Model_numbers_24 (by rw [c_7]; decide) (by rw [c_7]; decide) (by rw [c_7]; rfl) (by decide) ?_
    refine lv_iload_n hx hb d_Model_numbers_102 rfl (lv_at hl 2 rfl) ?_
    refine lv_iload_n hx hb d_Model_numbers_103 rfl (lv_at hl 3 rfl) ?_
    obtain ⟨h_8, hm⟩ := cz_some hm
    refine lv_idiv hx hb d_Model_numbers_104 (h_8) ?_
    refine lv_i2l hx hb d_Model_numbers_105 rfl ?_
    refine lv_topl (fun x_9 ex_9 => ?_)
    replace hm := ob1_at ex_9 hm
    refine lv_lstore (lv' := [(4, .long x_9), (0, .ref h), (1, .int v1), (2, .int v2), (3, .int v3)]) hx hb d_Model_numbers_106 hl (by decide) rfl (fun ls hl => ?_)
    refine lv_goto (tgt := 229) hx hb d_Model_numbers_108 (by decide) ?_
    exact lb_Model_numbers_229 l dC dI cI cJ cB adK adV adA h v n hx hb hml hown hts hK hE hA hr hlocks _ _ _ _ _ hm _ _ _ hP hD hS (lv_sub hl [1, 0] rfl)
  replace hm := if_f c_7 hm
  rcases Classical.em (v1 = 23) with c_10 | c_10
  · replace hm := if_t c_10 hm
    refine lv_tableIn (x := v1) (tgt := 111) hx hb d_Model_numbers_24 (by rw [c_10]; decide) (by rw [c_10]; decide) (by rw [c_10]; rfl) (by decide) ?_
    refine lv_iload_n hx hb d_Model_numbers_111 rfl (lv_at hl 2 rfl) ?_
    refine lv_iload_n hx hb d_Model_numbers_112 rfl (lv_at hl 3 rfl) ?_
    obtain ⟨h_11, hm⟩ := cz_some hm
    refine lv_irem hx hb d_Model_numbers_113 (h_11) ?_
    refine lv_i2l hx hb d_Model_numbers_114 rfl ?_
    refine lv_topl (fun x_12 ex_12 => ?_)
    replace hm := ob1_at ex_12 hm
    refine lv_lstore (lv' := [(4, .long x_12), (0, .ref h), (1, .int v1), (2, .int v2), (3, .int v3)]) hx hb d_Model_numbers_115 hl (by decide) rfl (fun ls hl => ?_)
    refine lv_goto (tgt := 229) hx hb d_Model_numbers_117 (by decide) ?_
    exact lb_Model_numbers_229 l dC dI cI cJ cB adK adV adA h v n hx hb hml hown hts hK hE hA hr hlocks _ _ _ _ _ hm _ _ _ hP hD hS (lv_sub hl [1, 0] rfl)
  replace hm := if_f c_10 hm
  rcases Classical.em (v1 = 24) with c_13 | c_13
  · replace hm := if_t c_13 hm
    refine lv_tableIn (x := v1) (tgt := 120) hx hb d_Model_numbers_24 (by rw [c_13]; decide) (by rw [c_13]; decide) (by rw [c_13]; rfl) (by decide) ?_
    refine lv_iload_n hx hb d_Model_numbers_120 rfl (lv_at hl 2 rfl) ?_
    refine lv_ineg hx hb d_Model_numbers_121 ?_
    refine lv_i2l hx hb d_Model_numbers_122 rfl ?_
    refine lv_topl (fun x_14 ex_14 => ?_)
    replace hm := ob1_at ex_14 hm
    refine lv_lstore (lv' := [(4, .long x_14), (0, .ref h), (1, .int v1), (2, .int v2), (3, .int v3)]) hx hb d_Model_numbers_123 hl (by decide) rfl (fun ls hl => ?_)
    refine lv_goto (tgt := 229) hx hb d_Model_numbers_125 (by decide) ?_
    exact lb_Model_numbers_229 l dC dI cI cJ cB adK adV adA h v n hx hb hml hown hts hK hE hA hr hlocks _ _ _ _ _ hm _ _ _ hP hD hS (lv_sub hl [1, 0] rfl)
  replace hm := if_f c_13 hm
  rcases Classical.em (v1 = 25) with c_15 | c_15
  · replace hm := if_t c_15 hm
    refine lv_tableIn (x := v1) (tgt := 128) hx hb d_Model_numbers_24 (by rw [c_15]; decide) (by rw [c_15]; decide) (by rw [c_15]; rfl) (by decide) ?_
    refine lv_aload_n hx hb d_Model_numbers_128 rfl (lv_at hl 0 rfl) ?_
    refine lv_iload_n hx hb d_Model_numbers_129 rfl (lv_at hl 2 rfl) ?_
    refine lv_iload_n hx hb d_Model_numbers_130 rfl (lv_at hl 3 rfl) ?_
    refine lv_icmp_ge (tgt := 138) hx hb d_Model_numbers_131 (by decide) (fun c_16 => ?_) (fun c_16 => ?_)
    · replace hm := if_t c_16 hm
      refine lv_iconst (v := 0) hx hb d_Model_numbers_138 (by decide) ?_
      obtain ⟨r_18, h_17, hm⟩ := ob0_some hm
      have hFc := x_free0 hS hA
      refine va_calll (va_runV (As := [.int 0]) (rest := []) ⟨hx, hb, hml, hown, hts⟩ (x_Model_truth l dC dI cI cJ cB adK adV adA h v H.size n h_17) (cwV 1 hts (tw_GV tw_cons cw_Model_truth lk_Model_721 in_Model_truth sel_Model_truth ini_Model) rfl rfl rfl ⟨rfl, hd_Model_truth⟩ ⟨Nat.le_of_ble_eq_true rfl, Nat.le_of_ble_eq_true rfl⟩) (ypVr hK hP hS hE hFc yo_12 rfl) rfl rfl hl.1 rfl (lv_room (Nat.le_of_ble_eq_true rfl)) d_Model_numbers_139 ⟨Nat.le_of_ble_eq_true rfl, Nat.le_of_ble_eq_true rfl⟩) hS (fun q _ h => hFc q h) hFc (fun r9 u9 t9 H locs ht hvm e9 hB hz1 hk1 hS => ?_)
      have e9 : r_18 = r9 := e9
      subst e9
      replace hP := x_keep hP hk1
      clear hFc hk1 hz1 hvm hB ht
      obtain ⟨e1i, e1j, e1a, e1b, e3⟩ := re4m hm
      obtain ⟨hP, hD⟩ := y_eq e1i e1j e1a e1b hP hD
      exact W.lret hx hb hr (fun t9 ht hW => ⟨⟨_, (), rfl, e3.symm, by rw [ht]; exact hP, hD⟩, hS.F ht⟩) hS.2.2 d_Model_numbers_142
    · replace hm := if_f c_16 hm
      refine lv_iconst (v := 1) hx hb d_Model_numbers_134 (by decide) ?_
      refine lv_goto (tgt := 139) hx hb d_Model_numbers_135 (by decide) ?_
      obtain ⟨r_20, h_19, hm⟩ := ob0_some hm
      have hFc := x_free0 hS hA
      refine va_calll (va_runV (As := [.int 1]) (rest := []) ⟨hx, hb, hml, hown, hts⟩ (x_Model_truth l dC dI cI cJ cB adK adV adA h v H.size n h_19) (cwV 1 hts (tw_GV tw_cons cw_Model_truth lk_Model_721 in_Model_truth sel_Model_truth ini_Model) rfl rfl rfl ⟨rfl, hd_Model_truth⟩ ⟨Nat.le_of_ble_eq_true rfl, Nat.le_of_ble_eq_true rfl⟩) (ypVr hK hP hS hE hFc yo_12 rfl) rfl rfl hl.1 rfl (lv_room (Nat.le_of_ble_eq_true rfl)) d_Model_numbers_139 ⟨Nat.le_of_ble_eq_true rfl, Nat.le_of_ble_eq_true rfl⟩) hS (fun q _ h => hFc q h) hFc (fun r9 u9 t9 H locs ht hvm e9 hB hz1 hk1 hS => ?_)
      have e9 : r_20 = r9 := e9
      subst e9
      replace hP := x_keep hP hk1
      clear hFc hk1 hz1 hvm hB ht
      obtain ⟨e1i, e1j, e1a, e1b, e3⟩ := re4m hm
      obtain ⟨hP, hD⟩ := y_eq e1i e1j e1a e1b hP hD
      exact W.lret hx hb hr (fun t9 ht hW => ⟨⟨_, (), rfl, e3.symm, by rw [ht]; exact hP, hD⟩, hS.F ht⟩) hS.2.2 d_Model_numbers_142
  replace hm := if_f c_15 hm
  rcases Classical.em (v1 = 26) with c_21 | c_21
  · replace hm := if_t c_21 hm
    refine lv_tableIn (x := v1) (tgt := 143) hx hb d_Model_numbers_24 (by rw [c_21]; decide) (by rw [c_21]; decide) (by rw [c_21]; rfl) (by decide) ?_
    refine lv_aload_n hx hb d_Model_numbers_143 rfl (lv_at hl 0 rfl) ?_
    refine lv_iload_n hx hb d_Model_numbers_144 rfl (lv_at hl 2 rfl) ?_
    refine lv_iload_n hx hb d_Model_numbers_145 rfl (lv_at hl 3 rfl) ?_
    refine lv_icmp_le (tgt := 153) hx hb d_Model_numbers_146 (by decide) (fun c_22 => ?_) (fun c_22 => ?_)
    · replace hm := if_t c_22 hm
      refine lv_iconst (v := 0) hx hb d_Model_numbers_153 (by decide) ?_
      obtain ⟨r_24, h_23, hm⟩ := ob0_some hm
      have hFc := x_free0 hS hA
      refine va_calll (va_runV (As := [.int 0]) (rest := []) ⟨hx, hb, hml, hown, hts⟩ (x_Model_truth l dC dI cI cJ cB adK adV adA h v H.size n h_23) (cwV 1 hts (tw_GV tw_cons cw_Model_truth lk_Model_721 in_Model_truth sel_Model_truth ini_Model) rfl rfl rfl ⟨rfl, hd_Model_truth⟩ ⟨Nat.le_of_ble_eq_true rfl, Nat.le_of_ble_eq_true rfl⟩) (ypVr hK hP hS hE hFc yo_12 rfl) rfl rfl hl.1 rfl (lv_room (Nat.le_of_ble_eq_true rfl)) d_Model_numbers_154 ⟨Nat.le_of_ble_eq_true rfl, Nat.le_of_ble_eq_true rfl⟩) hS (fun q _ h => hFc q h) hFc (fun r9 u9 t9 H locs ht hvm e9 hB hz1 hk1 hS => ?_)
      have e9 : r_24 = r9 := e9
      subst e9
      replace hP := x_keep hP hk1
      clear hFc hk1 hz1 hvm hB ht
      obtain ⟨e1i, e1j, e1a, e1b, e3⟩ := re4m hm
      obtain ⟨hP, hD⟩ := y_eq e1i e1j e1a e1b hP hD
      exact W.lret hx hb hr (fun t9 ht hW => ⟨⟨_, (), rfl, e3.symm, by rw [ht]; exact hP, hD⟩, hS.F ht⟩) hS.2.2 d_Model_numbers_157
    · replace hm := if_f c_22 hm
      refine lv_iconst (v := 1) hx hb d_Model_numbers_149 (by decide) ?_
      refine lv_goto (tgt := 154) hx hb d_Model_numbers_150 (by decide) ?_
      obtain ⟨r_26, h_25, hm⟩ := ob0_some hm
      have hFc := x_free0 hS hA
      refine va_calll (va_runV (As := [.int 1]) (rest := []) ⟨hx, hb, hml, hown, hts⟩ (x_Model_truth l dC dI cI cJ cB adK adV adA h v H.size n h_25) (cwV 1 hts (tw_GV tw_cons cw_Model_truth lk_Model_721 in_Model_truth sel_Model_truth ini_Model) rfl rfl rfl ⟨rfl, hd_Model_truth⟩ ⟨Nat.le_of_ble_eq_true rfl, Nat.le_of_ble_eq_true rfl⟩) (ypVr hK hP hS hE hFc yo_12 rfl) rfl rfl hl.1 rfl (lv_room (Nat.le_of_ble_eq_true rfl)) d_Model_numbers_154 ⟨Nat.le_of_ble_eq_true rfl, Nat.le_of_ble_eq_true rfl⟩) hS (fun q _ h => hFc q h) hFc (fun r9 u9 t9 H locs ht hvm e9 hB hz1 hk1 hS => ?_)
      have e9 : r_26 = r9 := e9
      subst e9
      replace hP := x_keep hP hk1
      clear hFc hk1 hz1 hvm hB ht
      obtain ⟨e1i, e1j, e1a, e1b, e3⟩ := re4m hm
      obtain ⟨hP, hD⟩ := y_eq e1i e1j e1a e1b hP hD
      exact W.lret hx hb hr (fun t9 ht hW => ⟨⟨_, (), rfl, e3.symm, by rw [ht]; exact hP, hD⟩, hS.F ht⟩) hS.2.2 d_Model_numbers_157
  replace hm := if_f c_21 hm
  refine lv_tableOut (x := v1) (tgt := 158) hx hb d_Model_numbers_24 (by have q0 := lv_neT c_1 (show (19 : Int32).toInt = 19 from by decide); have q1 := lv_neT c_3 (show (20 : Int32).toInt = 20 from by decide); have q2 := lv_neT c_5 (show (21 : Int32).toInt = 21 from by decide); have q3 := lv_neT c_7 (show (22 : Int32).toInt = 22 from by decide); have q4 := lv_neT c_10 (show (23 : Int32).toInt = 23 from by decide); have q5 := lv_neT c_13 (show (24 : Int32).toInt = 24 from by decide); have q6 := lv_neT c_15 (show (25 : Int32).toInt = 25 from by decide); have q7 := lv_neT c_21 (show (26 : Int32).toInt = 26 from by decide); omega) (by decide) ?_
  refine lv_iload_n hx hb d_Model_numbers_158 rfl (lv_at hl 2 rfl) ?_
  refine lv_iconst (v := 1) hx hb d_Model_numbers_159 (by decide) ?_
  refine lv_icmp_ge (tgt := 169) hx hb d_Model_numbers_160 (by decide) (fun c_27 => ?_) (fun c_27 => ?_)
  · replace hm := if_t c_27 hm
    refine lv_aload_n hx hb d_Model_numbers_169 rfl (lv_at hl 0 rfl) ?_
    refine lv_dup hx hb d_Model_numbers_170 rfl ?_
    refine va_get (D := (dC, dI)) (ci := 12) (v := .int (i 46)) (C := R_Model) (T := F_Model) (N := 127) hx hb htt iw_Model hown hK hP 0 yo_12 rfl 46 (Nat.le_of_ble_eq_true rfl) (htt _ lk_Model_331) (fun _ h9 => h9) yg_46 d_Model_numbers_171 ?_
    refine lv_aload_n hx hb d_Model_numbers_174 rfl (lv_at hl 0 rfl) ?_
    refine va_get (D := (dC, dI)) (ci := 12) (v := .int (i 46)) (C := R_Model) (T := F_Model) (N := 127) hx hb htt iw_Model hown hK hP 0 yo_12 rfl 46 (Nat.le_of_ble_eq_true rfl) (htt _ lk_Model_331) (fun _ h9 => h9) yg_46 d_Model_numbers_175 ?_
    refine lv_bipush (v := 13) hx hb d_Model_numbers_178 (by decide) ?_
    refine lv_ishl hx hb d_Model_numbers_180 ?_
    refine lv_ixor hx hb d_Model_numbers_181 ?_
    refine lv_topi (fun x_28 ex_28 => ?_)
    replace hm := ob1_at ex_28 hm
    refine va_put (D := (dC, dI)) (ci := 12) (v := .int x_28) (ty := .int) (C := R_Model) (T := F_Model) (N := 127) hx hb htt iw_Model t_Model t_Model_ok n_Model hown hK hP hD hS 0 yo_12 rfl 46 (Nat.le_of_ble_eq_true rfl) (htt _ lk_Model_331) (fun _ h9 => h9) rfl (by decide +kernel) rfl rfl yl_46 d_Model_numbers_182 (fun H locs hP hD hS => ?_)
    obtain ⟨i_29, ei_29⟩ : ∃ y9 : Nat → Int32, y9 = upd i 46 x_28 := ⟨_, rfl⟩
    replace hm := ob1_at ei_29 hm
    obtain ⟨hP, hD⟩ := yw_46 ei_29 hP hD
    refine lv_aload_n hx hb d_Model_numbers_185 rfl (lv_at hl 0 rfl) ?_
    refine lv_dup hx hb d_Model_numbers_186 rfl ?_
    refine va_get (D := (dC, dI)) (ci := 12) (v := .int (i_29 46)) (C := R_Model) (T := F_Model) (N := 127) hx hb htt iw_Model hown hK hP 0 yo_12 rfl 46 (Nat.le_of_ble_eq_true rfl) (htt _ lk_Model_331) (fun _ h9 => h9) yg_46 d_Model_numbers_187 ?_
    refine lv_aload_n hx hb d_Model_numbers_190 rfl (lv_at hl 0 rfl) ?_
    refine va_get (D := (dC, dI)) (ci := 12) (v := .int (i_29 46)) (C := R_Model) (T := F_Model) (N := 127) hx hb htt iw_Model hown hK hP 0 yo_12 rfl 46 (Nat.le_of_ble_eq_true rfl) (htt _ lk_Model_331) (fun _ h9 => h9) yg_46 d_Model_numbers_191 ?_
    refine lv_bipush (v := 17) hx hb d_Model_numbers_194 (by decide) ?_
    refine lv_iushr hx hb d_Model_numbers_196 rfl ?_
    refine lv_ixor hx hb d_Model_numbers_197 ?_
    refine lv_topi (fun x_30 ex_30 => ?_)
    replace hm := ob1_at ex_30 hm
    refine va_put (D := (dC, dI)) (ci := 12) (v := .int x_30) (ty := .int) (C := R_Model) (T := F_Model) (N := 127) hx hb htt iw_Model t_Model t_Model_ok n_Model hown hK hP hD hS 0 yo_12 rfl 46 (Nat.le_of_ble_eq_true rfl) (htt _ lk_Model_331) (fun _ h9 => h9) rfl (by decide +kernel) rfl rfl yl_46 d_Model_numbers_198 (fun H locs hP hD hS => ?_)
    obtain ⟨i_31, ei_31⟩ : ∃ y9 : Nat → Int32, y9 = upd i_29 46 x_30 := ⟨_, rfl⟩
    replace hm := ob1_at ei_31 hm
    obtain ⟨hP, hD⟩ := yw_46 ei_31 hP hD
    refine lv_aload_n hx hb d_Model_numbers_201 rfl (lv_at hl 0 rfl) ?_
    refine lv_dup hx hb d_Model_numbers_202 rfl ?_
    refine va_get (D := (dC, dI)) (ci := 12) (v := .int (i_31 46)) (C := R_Model) (T := F_Model) (N := 127) hx hb htt iw_Model hown hK hP 0 yo_12 rfl 46 (Nat.le_of_ble_eq_true rfl) (htt _ lk_Model_331) (fun _ h9 => h9) yg_46 d_Model_numbers_203 ?_
    refine lv_aload_n hx hb d_Model_numbers_206 rfl (lv_at hl 0 rfl) ?_
    refine va_get (D := (dC, dI)) (ci := 12) (v := .int (i_31 46)) (C := R_Model) (T := F_Model) (N := 127) hx hb htt iw_Model hown hK hP 0 yo_12 rfl 46 (Nat.le_of_ble_eq_true rfl) (htt _ lk_Model_331) (fun _ h9 => h9) yg_46 d_Model_numbers_207 ?_
    refine lv_iconst (v := 5) hx hb d_Model_numbers_210 (by decide) ?_
    refine lv_ishl hx hb d_Model_numbers_211 ?_
    refine lv_ixor hx hb d_Model_numbers_212 ?_
    refine lv_topi (fun x_32 ex_32 => ?_)
    replace hm := ob1_at ex_32 hm
    refine va_put (D := (dC, dI)) (ci := 12) (v := .int x_32) (ty := .int) (C := R_Model) (T := F_Model) (N := 127) hx hb htt iw_Model t_Model t_Model_ok n_Model hown hK hP hD hS 0 yo_12 rfl 46 (Nat.le_of_ble_eq_true rfl) (htt _ lk_Model_331) (fun _ h9 => h9) rfl (by decide +kernel) rfl rfl yl_46 d_Model_numbers_213 (fun H locs hP hD hS => ?_)
    obtain ⟨i_33, ei_33⟩ : ∃ y9 : Nat → Int32, y9 = upd i_31 46 x_32 := ⟨_, rfl⟩
    replace hm := ob1_at ei_33 hm
    obtain ⟨hP, hD⟩ := yw_46 ei_33 hP hD
    refine lv_aload_n hx hb d_Model_numbers_216 rfl (lv_at hl 0 rfl) ?_
    refine va_get (D := (dC, dI)) (ci := 12) (v := .int (i_33 46)) (C := R_Model) (T := F_Model) (N := 127) hx hb htt iw_Model hown hK hP 0 yo_12 rfl 46 (Nat.le_of_ble_eq_true rfl) (htt _ lk_Model_331) (fun _ h9 => h9) yg_46 d_Model_numbers_217 ?_
    refine lv_ldcw (v := 2147483647) hx hb hown (htt _ lk_Model_738) d_Model_numbers_220 ?_
    refine lv_iand hx hb d_Model_numbers_223 ?_
    refine lv_iload_n hx hb d_Model_numbers_224 rfl (lv_at hl 2 rfl) ?_
    obtain ⟨h_34, hm⟩ := cz_some hm
    refine lv_irem hx hb d_Model_numbers_225 (h_34) ?_
    refine lv_i2l hx hb d_Model_numbers_226 rfl ?_
    refine lv_topl (fun x_35 ex_35 => ?_)
    replace hm := ob1_at ex_35 hm
    refine lv_lstore (lv' := [(4, .long x_35), (0, .ref h), (1, .int v1), (2, .int v2), (3, .int v3)]) hx hb d_Model_numbers_227 hl (by decide) rfl (fun ls hl => ?_)
    exact lb_Model_numbers_229 l dC dI cI cJ cB adK adV adA h v n hx hb hml hown hts hK hE hA hr hlocks _ _ _ _ _ hm _ _ _ hP hD hS (lv_sub hl [1, 0] rfl)
  · replace hm := if_f c_27 hm
    refine lv_aload_n hx hb d_Model_numbers_163 rfl (lv_at hl 0 rfl) ?_
    refine lv_iconst (v := 3) hx hb d_Model_numbers_164 (by decide) ?_
    obtain ⟨i_37, j_38, a_39, b_40, r_41, h_36, hm⟩ := om_some hm
    have hFc := x_free hD hS hA
    refine va_calll (va_runV (As := [.int 3]) (rest := []) ⟨hx, hb, hml, hown, hts⟩ (x_Model_fails l dC dI cI cJ cB adK adV adA h v H.size n h_36) (cwV 1 hts (tw_GV tw_cons cw_Model_fails lk_Model_596 in_Model_fails sel_Model_fails ini_Model) rfl rfl rfl ⟨rfl, hd_Model_fails⟩ ⟨Nat.le_of_ble_eq_true rfl, Nat.le_of_ble_eq_true rfl⟩) (ypV hK hP hD hS hE hFc yo_12 rfl) rfl rfl hl.1 rfl (lv_room (Nat.le_of_ble_eq_true rfl)) d_Model_numbers_165 ⟨Nat.le_of_ble_eq_true rfl, Nat.le_of_ble_eq_true rfl⟩) hS (fun q _ h => hFc q h) hFc (fun r9 u9 t9 H locs ht hvm e9 hB hz1 hk1 hS => ?_)
    have e9 : r_41 = r9 := e9
    subst e9
    obtain ⟨hP, hD⟩ := y_aft hB ht hFc
    clear hFc hk1 hz1 hvm hB ht
    obtain ⟨e1i, e1j, e1a, e1b, e3⟩ := re4m hm
    obtain ⟨hP, hD⟩ := y_eq e1i e1j e1a e1b hP hD
    exact W.lret hx hb hr (fun t9 ht hW => ⟨⟨_, (), rfl, e3.symm, by rw [ht]; exact hP, hD⟩, hS.F ht⟩) hS.2.2 d_Model_numbers_168
def m_Model_numbers_b12 (n : Nat) (i : Nat → Int32) (j : Nat → Int64) (a : Nat → Nat → Int32) (b : Nat → Nat → Int64) (v1 : Int32) (v2 : Int32) (v3 : Int32) : Option ((Nat → Int32) × (Nat → Int64) × (Nat → Nat → Int32) × (Nat → Nat → Int64) × Int64) := if v3 = ((0 : Int32)) then om (m_Model_fails n i j a b (10 : Int32)) (fun i_3 j_4 a_5 b_6 r_7 => some (i_3, j_4, a_5, b_6, r_7)) else m_Model_numbers_b23 n i j a b v1 v2 v3
set_option maxHeartbeats 4000000 in
set_option maxRecDepth 100000 in
theorem lb_Model_numbers_12 (l : Launch) (dC : Nat → ClassId) (dI : Nat → Nat → Nat) (cI cJ cB : ClassId) (adK adV adA : Nat → Nat) (h : Nat) (v : Nat → Nat) (n : Nat) {p : Program} {e : Env} {s : State} {m : MethodId} {args : Array Value} {below : List Frame} {meth : Method} {c : Code} {A : Nat → Prop} (hx : p.tables.exec = Jvm.exec) (hb : c.code = b_Model_numbers) (hml : c.maxLocals = 6) (hown : s.vm.findClass R_Model = some m.cls) (hts : ∀ w ∈ w_Model_numbers, w.before args s = true) (hK : va_K (dC, dI) classes [(cI, .int), (cJ, .long), (cB, .byte)] s) (hE : tw_E adK adV adA A s s.heap) (hA : ∀ q : Nat, s.heap.size ≤ q → A q) (hr : meth.sig.returnType = (some .long)) (hlocks : meth.locks = false) {i2 : Nat → Int32} {j2 : Nat → Int64} {a2 : Nat → Nat → Int32} {b2 : Nat → Nat → Int64} {r2 : Int64} (i : Nat → Int32) (j : Nat → Int64) (a : Nat → Nat → Int32) (b : Nat → Nat → Int64) (v1 : Int32) (v2 : Int32) (v3 : Int32) (hm : m_Model_numbers_b12 n i j a b v1 v2 v3 = some (i2, j2, a2, b2, r2)) : ∀ (H : Heap) (locs : List Loc) (ls : Array Slot), va_P (dC, dI) classes (MW cI cJ cB h v i j a b) H → va_D A (MW cI cJ cB h v i j a b) → va_S A s.heap H locs → lv_has ls 6 [(0, .ref h), (1, .int v1), (2, .int v2), (3, .int v3)] → W p l e ({ frames := 1, cells := 0, slots := 0, locals := 21 } : Room) s m args below meth c H locs 0 0 (MQ below (va_Ql (xR r2) (yB dC dI cI cJ cB h v i2 j2 a2 b2 A) A) args s 0 0 A) (F0 m 12 ls []) := by
  have htt : ∀ w ∈ tw_T, w.before _ s = true := fun w h => hts w (List.mem_cons_of_mem _ h)
  intro H locs ls hP hD hS hl
  rw [m_Model_numbers_b12] at hm
  refine lv_iload_n hx hb d_Model_numbers_12 rfl (lv_at hl 3 rfl) ?_
  refine lv_if_ne (tgt := 23) hx hb d_Model_numbers_13 (by decide) (fun c_1 => ?_) (fun c_1 => ?_)
  · replace hm := if_f c_1 hm
    exact lb_Model_numbers_23 l dC dI cI cJ cB adK adV adA h v n hx hb hml hown hts hK hE hA hr hlocks _ _ _ _ _ _ _ hm _ _ _ hP hD hS (lv_sub hl [0, 1, 2, 3] rfl)
  · replace hm := if_t c_1 hm
    refine lv_aload_n hx hb d_Model_numbers_16 rfl (lv_at hl 0 rfl) ?_
    refine lv_bipush (v := 10) hx hb d_Model_numbers_17 (by decide) ?_
    obtain ⟨i_3, j_4, a_5, b_6, r_7, h_2, hm⟩ := om_some hm
    have hFc := x_free hD hS hA
    refine va_calll (va_runV (As := [.int 10]) (rest := []) ⟨hx, hb, hml, hown, hts⟩ (x_Model_fails l dC dI cI cJ cB adK adV adA h v H.size n h_2) (cwV 1 hts (tw_GV tw_cons cw_Model_fails lk_Model_596 in_Model_fails sel_Model_fails ini_Model) rfl rfl rfl ⟨rfl, hd_Model_fails⟩ ⟨Nat.le_of_ble_eq_true rfl, Nat.le_of_ble_eq_true rfl⟩) (ypV hK hP hD hS hE hFc yo_12 rfl) rfl rfl hl.1 rfl (lv_room (Nat.le_of_ble_eq_true rfl)) d_Model_numbers_19 ⟨Nat.le_of_ble_eq_true rfl, Nat.le_of_ble_eq_true rfl⟩) hS (fun q _ h => hFc q h) hFc (fun r9 u9 t9 H locs ht hvm e9 hB hz1 hk1 hS => ?_)
    have e9 : r_7 = r9 := e9
    subst e9
    obtain ⟨hP, hD⟩ := y_aft hB ht hFc
    clear hFc hk1 hz1 hvm hB ht
    obtain ⟨e1i, e1j, e1a, e1b, e3⟩ := re4m hm
    obtain ⟨hP, hD⟩ := y_eq e1i e1j e1a e1b hP hD
    exact W.lret hx hb hr (fun t9 ht hW => ⟨⟨_, (), rfl, e3.symm, by rw [ht]; exact hP, hD⟩, hS.F ht⟩) hS.2.2 d_Model_numbers_22
def m_Model_numbers (n : Nat) (i : Nat → Int32) (j : Nat → Int64) (a : Nat → Nat → Int32) (b : Nat → Nat → Int64) (v1 : Int32) (v2 : Int32) (v3 : Int32) : Option ((Nat → Int32) × (Nat → Int64) × (Nat → Nat → Int32) × (Nat → Nat → Int64) × Int64) := if v1 = ((22 : Int32)) then m_Model_numbers_b12 n i j a b v1 v2 v3 else if v1 = ((23 : Int32)) then m_Model_numbers_b12 n i j a b v1 v2 v3 else m_Model_numbers_b23 n i j a b v1 v2 v3
set_option maxHeartbeats 4000000 in
set_option maxRecDepth 100000 in
theorem x_Model_numbers (l : Launch) (dC : Nat → ClassId) (dI : Nat → Nat → Nat) (cI cJ cB : ClassId) (adK adV adA : Nat → Nat) (h : Nat) (v : Nat → Nat) (sz : Nat) (n : Nat) {i : Nat → Int32} {j : Nat → Int64} {a : Nat → Nat → Int32} {b : Nat → Nat → Int64} {v1 : Int32} {v2 : Int32} {v3 : Int32} {i2 : Nat → Int32} {j2 : Nat → Int64} {a2 : Nat → Nat → Int32} {b2 : Nat → Nat → Int64} {r2 : Int64} (hm : m_Model_numbers n i j a b v1 v2 v3 = some (i2, j2, a2, b2, r2)) : Met l y_Model_numbers w_Model_numbers ({ frames := 1, cells := 0, slots := 0, locals := 21 } : Room) (va_Pc [.ref h, .int v1, .int v2, .int v3] (yE dC dI cI cJ cB adK adV adA h v i j a b sz)) (va_Ql (xR r2) (yB dC dI cI cJ cB h v i2 j2 a2 b2 (va_A (MW cI cJ cB h v i j a b) sz)) (va_A (MW cI cJ cB h v i j a b) sz)) 0 0 ((va_A (MW cI cJ cB h v i j a b) sz)) := by
  refine Met.ofW (cc := b_Model_numbers) (maxL := 6) (ret := (some .long)) (by decide) rfl ?_
  intro p e s m args below meth c s₁ B hml hv
  obtain ⟨rfl, hsz, hP, hK, hE, hD0⟩ := hv
  have hx := B.exec
  have hb := B.bytes
  have hr := B.returns
  have hts := atoms_spec (ws := w_Model_numbers) B.pre
  have htt : ∀ w ∈ tw_T, w.before _ s = true := fun w h => hts w (List.mem_cons_of_mem _ h)
  have hown : s.vm.findClass R_Model = some m.cls := findClass_of_methodNamed B.named
  have hlocks := B.notSynchronized
  subst hsz
  have hD := hD0.self (sz := s.heap.size)
  generalize hAe : (va_A (MW cI cJ cB h v i j a b) s.heap.size) = A at hD hE ⊢
  have hA : ∀ q : Nat, s.heap.size ≤ q → A q := fun q h => by rw [← hAe]; exact Or.inr h
  have hS : va_S A s.heap s.heap [] := va_S.rf
  have hl := lv_entry ([.ref h, .int v1, .int v2, .int v3]) (n := 6) (Nat.le_of_ble_eq_true rfl)
  rw [lg_entry_eq]
  generalize (lg_sl ([.ref h, .int v1, .int v2, .int v3]) ++ List.replicate (6 - (lg_sl ([.ref h, .int v1, .int v2, .int v3])).length) Slot.unset).toArray = ls at hl ⊢
  have hl : lv_has ls 6 [(0, .ref h), (1, .int v1), (2, .int v2), (3, .int v3)] := hl
  rw [m_Model_numbers] at hm
  refine lv_iload_n hx hb d_Model_numbers_0 rfl (lv_at hl 1 rfl) ?_
  refine lv_bipush (v := 22) hx hb d_Model_numbers_1 (by decide) ?_
  refine lv_icmp_eq (tgt := 12) hx hb d_Model_numbers_3 (by decide) (fun c_1 => ?_) (fun c_1 => ?_)
  · replace hm := if_t c_1 hm
    exact lb_Model_numbers_12 l dC dI cI cJ cB adK adV adA h v n hx hb hml hown hts hK hE hA hr hlocks _ _ _ _ _ _ _ hm _ _ _ hP hD hS (lv_sub hl [0, 1, 2, 3] rfl)
  · replace hm := if_f c_1 hm
    refine lv_iload_n hx hb d_Model_numbers_6 rfl (lv_at hl 1 rfl) ?_
    refine lv_bipush (v := 23) hx hb d_Model_numbers_7 (by decide) ?_
    refine lv_icmp_ne (tgt := 23) hx hb d_Model_numbers_9 (by decide) (fun c_2 => ?_) (fun c_2 => ?_)
    · replace hm := if_f c_2 hm
      exact lb_Model_numbers_23 l dC dI cI cJ cB adK adV adA h v n hx hb hml hown hts hK hE hA hr hlocks _ _ _ _ _ _ _ hm _ _ _ hP hD hS (lv_sub hl [0, 1, 2, 3] rfl)
    · replace hm := if_t c_2 hm
      exact lb_Model_numbers_12 l dC dI cI cJ cB adK adV adA h v n hx hb hml hown hts hK hE hA hr hlocks _ _ _ _ _ _ _ hm _ _ _ hP hD hS (lv_sub hl [0, 1, 2, 3] rfl)

def m_Math_abs (n : Nat) (v0 : Int32) : Option (Int32) := if ((0 : Int32)) ≤ v0 then some v0 else some (-v0)
set_option maxHeartbeats 4000000 in
set_option maxRecDepth 100000 in
theorem x_Math_abs (l : Launch) (sz : Nat) (n : Nat) {v0 : Int32} {r2 : Int32} (hm : m_Math_abs n v0 = some r2) : Met l y_Math_abs w_Math_abs ({ frames := 0, cells := 0, slots := 0, locals := 0 } : Room) (va_Pc [.int v0] (xE0 sz)) (va_Qi (xR r2) xT (xN sz)) 0 0 (xN sz) := by
  refine mt_ofW (cc := b_Math_abs) (maxL := 1) (ret := (some .int)) (by decide +kernel) rfl ?_
  intro p e s m args below meth c s₁ B hml hv
  obtain ⟨rfl, hsz⟩ := hv
  have hx := B.exec
  have hb := B.bytes
  have hr := B.returns
  have hts := atoms_spec (ws := w_Math_abs) B.pre
  have htt : ∀ w ∈ tw_T, w.before _ s = true := fun w h => hts w (List.mem_cons_of_mem _ h)
  have hown : s.vm.findClass "java/lang/Math" = some m.cls := findClass_of_methodNamed B.named
  have hlocks := B.notSynchronized
  subst hsz
  generalize hAe : xN s.heap.size = A
  have hA : ∀ q : Nat, s.heap.size ≤ q → A q := fun q h => by rw [← hAe]; exact Or.inr h
  have hS : va_S A s.heap s.heap [] := va_S.rf
  have hl := lv_entry ([.int v0]) (n := 1) (Nat.le_of_ble_eq_true rfl)
  rw [lg_entry_eq]
  generalize (lg_sl ([.int v0]) ++ List.replicate (1 - (lg_sl ([.int v0])).length) Slot.unset).toArray = ls at hl ⊢
  have hl : lv_has ls 1 [(0, .int v0)] := hl
  rw [m_Math_abs] at hm
  refine lv_iload_n hx hb d_Math_abs_0 rfl (lv_at hl 0 rfl) ?_
  refine lv_if_ge (tgt := 9) hx hb d_Math_abs_1 (by decide) (fun c_1 => ?_) (fun c_1 => ?_)
  · replace hm := if_t c_1 hm
    refine lv_iload_n hx hb d_Math_abs_9 rfl (lv_at hl 0 rfl) ?_
    have e3 := re1 hm
    exact W.iret hx hb hr (fun t9 ht hW => ⟨⟨_, (), rfl, e3.symm, trivial⟩, hS.F ht⟩) hS.2.2 d_Math_abs_10
  · replace hm := if_f c_1 hm
    refine lv_iload_n hx hb d_Math_abs_4 rfl (lv_at hl 0 rfl) ?_
    refine lv_ineg hx hb d_Math_abs_5 ?_
    refine lv_goto (tgt := 10) hx hb d_Math_abs_6 (by decide) ?_
    have e3 := re1 hm
    exact W.iret hx hb hr (fun t9 ht hW => ⟨⟨_, (), rfl, e3.symm, trivial⟩, hS.F ht⟩) hS.2.2 d_Math_abs_10

def m_Model_sayNumber_b33 (n : Nat) : Nat → (Nat → Int32) → (Nat → Int64) → (Nat → Nat → Int32) → (Nat → Nat → Int64) → Int32 → Int32 → Option ((Nat → Int32) × (Nat → Int64) × (Nat → Nat → Int32) × (Nat → Nat → Int64) × Int32)
  | 0, _, _, _, _, _, _ => none
  | f + 1, i, j, a, b, v2, v3 => if v3 ≤ ((0 : Int32)) then some (i, j, a, b, (0 : Int32)) else cz v3 (om (m_Model_say n i j a b (48 + ((v2 / v3) - (v2 / v3) / 10 * 10))) (fun i_4 j_5 a_6 b_7 r_8 => ob1 (v3 / 10 : Int32) (fun x_9 => m_Model_sayNumber_b33 n f i_4 j_5 a_6 b_7 v2 x_9)))
set_option maxHeartbeats 4000000 in
set_option maxRecDepth 100000 in
theorem lb_Model_sayNumber_33 (l : Launch) (dC : Nat → ClassId) (dI : Nat → Nat → Nat) (cI cJ cB : ClassId) (adK adV adA : Nat → Nat) (h : Nat) (v : Nat → Nat) (n : Nat) {p : Program} {e : Env} {s : State} {m : MethodId} {args : Array Value} {below : List Frame} {meth : Method} {c : Code} {A : Nat → Prop} (hx : p.tables.exec = Jvm.exec) (hb : c.code = b_Model_sayNumber) (hml : c.maxLocals = 4) (hown : s.vm.findClass R_Model = some m.cls) (hts : ∀ w ∈ w_Model_sayNumber, w.before args s = true) (hK : va_K (dC, dI) classes [(cI, .int), (cJ, .long), (cB, .byte)] s) (hE : tw_E adK adV adA A s s.heap) (hA : ∀ q : Nat, s.heap.size ≤ q → A q) (hr : meth.sig.returnType = none) (hlocks : meth.locks = false) {i2 : Nat → Int32} {j2 : Nat → Int64} {a2 : Nat → Nat → Int32} {b2 : Nat → Nat → Int64} {r2 : Int32} : ∀ (f : Nat) (i : Nat → Int32) (j : Nat → Int64) (a : Nat → Nat → Int32) (b : Nat → Nat → Int64) (v2 : Int32) (v3 : Int32), m_Model_sayNumber_b33 n f i j a b v2 v3 = some (i2, j2, a2, b2, r2) → ∀ (H : Heap) (locs : List Loc) (ls : Array Slot), va_P (dC, dI) classes (MW cI cJ cB h v i j a b) H → va_D A (MW cI cJ cB h v i j a b) → va_S A s.heap H locs → lv_has ls 4 [(0, .ref h), (2, .int v2), (3, .int v3)] → W p l e ({ frames := 1, cells := 0, slots := 0, locals := 21 } : Room) s m args below meth c H locs 0 0 (MQ below (va_Qv xV (yB dC dI cI cJ cB h v i2 j2 a2 b2 A) A) args s 0 0 A) (F0 m 33 ls []) := by
  have htt : ∀ w ∈ tw_T, w.before _ s = true := fun w h => hts w (List.mem_cons_of_mem _ h)
  intro f
  induction f with
  | zero =>
    intro i j a b v2 v3 hm
    rw [m_Model_sayNumber_b33] at hm
    cases hm
  | succ f ih =>
    intro i j a b v2 v3 hm H locs ls hP hD hS hl
    rw [m_Model_sayNumber_b33] at hm
    refine lv_iload_n hx hb d_Model_sayNumber_33 rfl (lv_at hl 2 rfl) ?_
    refine lv_if_le (tgt := 58) hx hb d_Model_sayNumber_34 (by decide) (fun c_1 => ?_) (fun c_1 => ?_)
    · replace hm := if_t c_1 hm
      obtain ⟨e1i, e1j, e1a, e1b, e3⟩ := re4m hm
      obtain ⟨hP, hD⟩ := y_eq e1i e1j e1a e1b hP hD
      exact W.vret hx hb hr (fun t9 ht hW => ⟨⟨(), rfl, trivial, by rw [ht]; exact hP, hD⟩, hS.F ht⟩) hS.2.2 d_Model_sayNumber_58
    · replace hm := if_f c_1 hm
      refine lv_aload_n hx hb d_Model_sayNumber_37 rfl (lv_at hl 0 rfl) ?_
      refine lv_bipush (v := 48) hx hb d_Model_sayNumber_38 (by decide) ?_
      refine lv_iload_n hx hb d_Model_sayNumber_40 rfl (lv_at hl 1 rfl) ?_
      refine lv_iload_n hx hb d_Model_sayNumber_41 rfl (lv_at hl 2 rfl) ?_
      obtain ⟨h_2, hm⟩ := cz_some hm
      refine lv_idiv hx hb d_Model_sayNumber_42 (h_2) ?_
      refine lv_bipush (v := 10) hx hb d_Model_sayNumber_43 (by decide) ?_
      refine lv_irem hx hb d_Model_sayNumber_45 (by decide) ?_
      refine lv_iadd hx hb d_Model_sayNumber_46 ?_
      obtain ⟨i_4, j_5, a_6, b_7, r_8, h_3, hm⟩ := om_some hm
      have hFc := x_free hD hS hA
      refine va_callv (va_runV (As := [.int (48 + ((v2 / v3) - (v2 / v3) / 10 * 10))]) (rest := []) ⟨hx, hb, hml, hown, hts⟩ (x_Model_say l dC dI cI cJ cB adK adV adA h v H.size n h_3) (cwV 1 hts (tw_GV tw_cons cw_Model_say lk_Model_111 in_Model_say sel_Model_say ini_Model) rfl rfl rfl ⟨rfl, hd_Model_say⟩ ⟨Nat.le_of_ble_eq_true rfl, Nat.le_of_ble_eq_true rfl⟩) (ypV hK hP hD hS hE hFc yo_12 rfl) rfl rfl hl.1 rfl (lv_room (Nat.le_of_ble_eq_true rfl)) d_Model_sayNumber_47 ⟨Nat.le_of_ble_eq_true rfl, Nat.le_of_ble_eq_true rfl⟩) hS (fun q _ h => hFc q h) hFc (fun u9 t9 H locs ht hvm e9 hB hz1 hk1 hS => ?_)
      obtain ⟨hP, hD⟩ := y_aft hB ht hFc
      clear hFc hk1 hz1 hvm hB ht
      refine lv_iload_n hx hb d_Model_sayNumber_50 rfl (lv_at hl 2 rfl) ?_
      refine lv_bipush (v := 10) hx hb d_Model_sayNumber_51 (by decide) ?_
      refine lv_idiv hx hb d_Model_sayNumber_53 (by decide) ?_
      refine lv_topi (fun x_9 ex_9 => ?_)
      replace hm := ob1_at ex_9 hm
      refine lv_istore_n (lv' := [(3, .int x_9), (0, .ref h), (2, .int v2)]) hx hb d_Model_sayNumber_54 rfl hl (by decide) rfl (fun ls hl => ?_)
      refine lv_goto (tgt := 33) hx hb d_Model_sayNumber_55 (by decide) ?_
      exact ih _ _ _ _ _ _ hm _ _ _ hP hD hS (lv_sub hl [1, 2, 0] rfl)
def m_Model_sayNumber_b17 (n : Nat) : Nat → (Nat → Int32) → (Nat → Int64) → (Nat → Nat → Int32) → (Nat → Nat → Int64) → Int32 → Int32 → Option ((Nat → Int32) × (Nat → Int64) × (Nat → Nat → Int32) × (Nat → Nat → Int64) × Int32)
  | 0, _, _, _, _, _, _ => none
  | f + 1, i, j, a, b, v2, v3 => cz v3 (if ((v2 / v3)) ≤ ((9 : Int32)) then m_Model_sayNumber_b33 n n i j a b v2 v3 else ob1 (v3 * 10 : Int32) (fun x_3 => m_Model_sayNumber_b17 n f i j a b v2 x_3))
set_option maxHeartbeats 4000000 in
set_option maxRecDepth 100000 in
theorem lb_Model_sayNumber_17 (l : Launch) (dC : Nat → ClassId) (dI : Nat → Nat → Nat) (cI cJ cB : ClassId) (adK adV adA : Nat → Nat) (h : Nat) (v : Nat → Nat) (n : Nat) {p : Program} {e : Env} {s : State} {m : MethodId} {args : Array Value} {below : List Frame} {meth : Method} {c : Code} {A : Nat → Prop} (hx : p.tables.exec = Jvm.exec) (hb : c.code = b_Model_sayNumber) (hml : c.maxLocals = 4) (hown : s.vm.findClass R_Model = some m.cls) (hts : ∀ w ∈ w_Model_sayNumber, w.before args s = true) (hK : va_K (dC, dI) classes [(cI, .int), (cJ, .long), (cB, .byte)] s) (hE : tw_E adK adV adA A s s.heap) (hA : ∀ q : Nat, s.heap.size ≤ q → A q) (hr : meth.sig.returnType = none) (hlocks : meth.locks = false) {i2 : Nat → Int32} {j2 : Nat → Int64} {a2 : Nat → Nat → Int32} {b2 : Nat → Nat → Int64} {r2 : Int32} : ∀ (f : Nat) (i : Nat → Int32) (j : Nat → Int64) (a : Nat → Nat → Int32) (b : Nat → Nat → Int64) (v2 : Int32) (v3 : Int32), m_Model_sayNumber_b17 n f i j a b v2 v3 = some (i2, j2, a2, b2, r2) → ∀ (H : Heap) (locs : List Loc) (ls : Array Slot), va_P (dC, dI) classes (MW cI cJ cB h v i j a b) H → va_D A (MW cI cJ cB h v i j a b) → va_S A s.heap H locs → lv_has ls 4 [(0, .ref h), (2, .int v2), (3, .int v3)] → W p l e ({ frames := 1, cells := 0, slots := 0, locals := 21 } : Room) s m args below meth c H locs 0 0 (MQ below (va_Qv xV (yB dC dI cI cJ cB h v i2 j2 a2 b2 A) A) args s 0 0 A) (F0 m 17 ls []) := by
  have htt : ∀ w ∈ tw_T, w.before _ s = true := fun w h => hts w (List.mem_cons_of_mem _ h)
  intro f
  induction f with
  | zero =>
    intro i j a b v2 v3 hm
    rw [m_Model_sayNumber_b17] at hm
    cases hm
  | succ f ih =>
    intro i j a b v2 v3 hm H locs ls hP hD hS hl
    rw [m_Model_sayNumber_b17] at hm
    refine lv_iload_n hx hb d_Model_sayNumber_17 rfl (lv_at hl 1 rfl) ?_
    refine lv_iload_n hx hb d_Model_sayNumber_18 rfl (lv_at hl 2 rfl) ?_
    obtain ⟨h_1, hm⟩ := cz_some hm
    refine lv_idiv hx hb d_Model_sayNumber_19 (h_1) ?_
    refine lv_bipush (v := 9) hx hb d_Model_sayNumber_20 (by decide) ?_
    refine lv_icmp_le (tgt := 33) hx hb d_Model_sayNumber_22 (by decide) (fun c_2 => ?_) (fun c_2 => ?_)
    · replace hm := if_t c_2 hm
      exact lb_Model_sayNumber_33 l dC dI cI cJ cB adK adV adA h v n hx hb hml hown hts hK hE hA hr hlocks n _ _ _ _ _ _ hm _ _ _ hP hD hS (lv_sub hl [0, 1, 2] rfl)
    · replace hm := if_f c_2 hm
      refine lv_iload_n hx hb d_Model_sayNumber_25 rfl (lv_at hl 2 rfl) ?_
      refine lv_bipush (v := 10) hx hb d_Model_sayNumber_26 (by decide) ?_
      refine lv_imul hx hb d_Model_sayNumber_28 ?_
      refine lv_topi (fun x_3 ex_3 => ?_)
      replace hm := ob1_at ex_3 hm
      refine lv_istore_n (lv' := [(3, .int x_3), (0, .ref h), (2, .int v2)]) hx hb d_Model_sayNumber_29 rfl hl (by decide) rfl (fun ls hl => ?_)
      refine lv_goto (tgt := 17) hx hb d_Model_sayNumber_30 (by decide) ?_
      exact ih _ _ _ _ _ _ hm _ _ _ hP hD hS (lv_sub hl [1, 2, 0] rfl)
def m_Model_sayNumber_b10 (n : Nat) (i : Nat → Int32) (j : Nat → Int64) (a : Nat → Nat → Int32) (b : Nat → Nat → Int64) (v1 : Int32) : Option ((Nat → Int32) × (Nat → Int64) × (Nat → Nat → Int32) × (Nat → Nat → Int64) × Int32) := ob0 (m_Math_abs n v1) (fun r_2 => m_Model_sayNumber_b17 n n i j a b r_2 (1 : Int32))
set_option maxHeartbeats 4000000 in
set_option maxRecDepth 100000 in
theorem lb_Model_sayNumber_10 (l : Launch) (dC : Nat → ClassId) (dI : Nat → Nat → Nat) (cI cJ cB : ClassId) (adK adV adA : Nat → Nat) (h : Nat) (v : Nat → Nat) (n : Nat) {p : Program} {e : Env} {s : State} {m : MethodId} {args : Array Value} {below : List Frame} {meth : Method} {c : Code} {A : Nat → Prop} (hx : p.tables.exec = Jvm.exec) (hb : c.code = b_Model_sayNumber) (hml : c.maxLocals = 4) (hown : s.vm.findClass R_Model = some m.cls) (hts : ∀ w ∈ w_Model_sayNumber, w.before args s = true) (hK : va_K (dC, dI) classes [(cI, .int), (cJ, .long), (cB, .byte)] s) (hE : tw_E adK adV adA A s s.heap) (hA : ∀ q : Nat, s.heap.size ≤ q → A q) (hr : meth.sig.returnType = none) (hlocks : meth.locks = false) {i2 : Nat → Int32} {j2 : Nat → Int64} {a2 : Nat → Nat → Int32} {b2 : Nat → Nat → Int64} {r2 : Int32} (i : Nat → Int32) (j : Nat → Int64) (a : Nat → Nat → Int32) (b : Nat → Nat → Int64) (v1 : Int32) (hm : m_Model_sayNumber_b10 n i j a b v1 = some (i2, j2, a2, b2, r2)) : ∀ (H : Heap) (locs : List Loc) (ls : Array Slot), va_P (dC, dI) classes (MW cI cJ cB h v i j a b) H → va_D A (MW cI cJ cB h v i j a b) → va_S A s.heap H locs → lv_has ls 4 [(0, .ref h), (1, .int v1)] → W p l e ({ frames := 1, cells := 0, slots := 0, locals := 21 } : Room) s m args below meth c H locs 0 0 (MQ below (va_Qv xV (yB dC dI cI cJ cB h v i2 j2 a2 b2 A) A) args s 0 0 A) (F0 m 10 ls []) := by
  have htt : ∀ w ∈ tw_T, w.before _ s = true := fun w h => hts w (List.mem_cons_of_mem _ h)
  intro H locs ls hP hD hS hl
  rw [m_Model_sayNumber_b10] at hm
  refine lv_iload_n hx hb d_Model_sayNumber_10 rfl (lv_at hl 1 rfl) ?_
  obtain ⟨r_2, h_1, hm⟩ := ob0_some hm
  have hFc := x_free0 hS hA
  refine va_calli (va_runS (As := [.int v1]) (rest := []) ⟨hx, hb, hml, hown, hts⟩ (x_Math_abs l H.size n h_1) (va_cwS 1 hts (tw_GS tw_cons cw_Math_abs lk_Model_115 st_Math_abs ini_Math) rfl rfl rfl hd_Math_abs ⟨Nat.le_of_ble_eq_true rfl, Nat.le_of_ble_eq_true rfl⟩) xpS0 rfl rfl hl.1 rfl (lv_room (Nat.le_of_ble_eq_true rfl)) d_Model_sayNumber_11 ⟨Nat.le_of_ble_eq_true rfl, Nat.le_of_ble_eq_true rfl⟩) hS (fun q _ h => hFc q h) hFc (fun r9 u9 t9 H locs ht hvm e9 hB hz1 hk1 hS => ?_)
  have e9 : r_2 = r9 := e9
  subst e9
  replace hP := x_keep hP hk1
  clear hFc hk1 hz1 hvm hB ht
  refine lv_istore_n (lv' := [(2, .int r_2), (0, .ref h), (1, .int v1)]) hx hb d_Model_sayNumber_14 rfl hl (by decide) rfl (fun ls hl => ?_)
  refine lv_iconst (v := 1) hx hb d_Model_sayNumber_15 (by decide) ?_
  refine lv_istore_n (lv' := [(3, .int 1), (2, .int r_2), (0, .ref h), (1, .int v1)]) hx hb d_Model_sayNumber_16 rfl hl (by decide) rfl (fun ls hl => ?_)
  exact lb_Model_sayNumber_17 l dC dI cI cJ cB adK adV adA h v n hx hb hml hown hts hK hE hA hr hlocks n _ _ _ _ _ _ hm _ _ _ hP hD hS (lv_sub hl [2, 1, 0] rfl)
def m_Model_sayNumber (n : Nat) (i : Nat → Int32) (j : Nat → Int64) (a : Nat → Nat → Int32) (b : Nat → Nat → Int64) (v1 : Int32) : Option ((Nat → Int32) × (Nat → Int64) × (Nat → Nat → Int32) × (Nat → Nat → Int64) × Int32) := if ((0 : Int32)) ≤ v1 then m_Model_sayNumber_b10 n i j a b v1 else om (m_Model_say n i j a b (45 : Int32)) (fun i_3 j_4 a_5 b_6 r_7 => m_Model_sayNumber_b10 n i_3 j_4 a_5 b_6 v1)
set_option maxHeartbeats 4000000 in
set_option maxRecDepth 100000 in
theorem x_Model_sayNumber (l : Launch) (dC : Nat → ClassId) (dI : Nat → Nat → Nat) (cI cJ cB : ClassId) (adK adV adA : Nat → Nat) (h : Nat) (v : Nat → Nat) (sz : Nat) (n : Nat) {i : Nat → Int32} {j : Nat → Int64} {a : Nat → Nat → Int32} {b : Nat → Nat → Int64} {v1 : Int32} {i2 : Nat → Int32} {j2 : Nat → Int64} {a2 : Nat → Nat → Int32} {b2 : Nat → Nat → Int64} {r2 : Int32} (hm : m_Model_sayNumber n i j a b v1 = some (i2, j2, a2, b2, r2)) : Met l y_Model_sayNumber w_Model_sayNumber ({ frames := 1, cells := 0, slots := 0, locals := 21 } : Room) (va_Pc [.ref h, .int v1] (yE dC dI cI cJ cB adK adV adA h v i j a b sz)) (va_Qv xV (yB dC dI cI cJ cB h v i2 j2 a2 b2 (va_A (MW cI cJ cB h v i j a b) sz)) (va_A (MW cI cJ cB h v i j a b) sz)) 0 0 ((va_A (MW cI cJ cB h v i j a b) sz)) := by
  refine Met.ofW (cc := b_Model_sayNumber) (maxL := 4) (ret := none) (by decide) rfl ?_
  intro p e s m args below meth c s₁ B hml hv
  obtain ⟨rfl, hsz, hP, hK, hE, hD0⟩ := hv
  have hx := B.exec
  have hb := B.bytes
  have hr := B.returns
  have hts := atoms_spec (ws := w_Model_sayNumber) B.pre
  have htt : ∀ w ∈ tw_T, w.before _ s = true := fun w h => hts w (List.mem_cons_of_mem _ h)
  have hown : s.vm.findClass R_Model = some m.cls := findClass_of_methodNamed B.named
  have hlocks := B.notSynchronized
  subst hsz
  have hD := hD0.self (sz := s.heap.size)
  generalize hAe : (va_A (MW cI cJ cB h v i j a b) s.heap.size) = A at hD hE ⊢
  have hA : ∀ q : Nat, s.heap.size ≤ q → A q := fun q h => by rw [← hAe]; exact Or.inr h
  have hS : va_S A s.heap s.heap [] := va_S.rf
  have hl := lv_entry ([.ref h, .int v1]) (n := 4) (Nat.le_of_ble_eq_true rfl)
  rw [lg_entry_eq]
  generalize (lg_sl ([.ref h, .int v1]) ++ List.replicate (4 - (lg_sl ([.ref h, .int v1])).length) Slot.unset).toArray = ls at hl ⊢
  have hl : lv_has ls 4 [(0, .ref h), (1, .int v1)] := hl
  rw [m_Model_sayNumber] at hm
  refine lv_iload_n hx hb d_Model_sayNumber_0 rfl (lv_at hl 1 rfl) ?_
  refine lv_if_ge (tgt := 10) hx hb d_Model_sayNumber_1 (by decide) (fun c_1 => ?_) (fun c_1 => ?_)
  · replace hm := if_t c_1 hm
    exact lb_Model_sayNumber_10 l dC dI cI cJ cB adK adV adA h v n hx hb hml hown hts hK hE hA hr hlocks _ _ _ _ _ hm _ _ _ hP hD hS (lv_sub hl [0, 1] rfl)
  · replace hm := if_f c_1 hm
    refine lv_aload_n hx hb d_Model_sayNumber_4 rfl (lv_at hl 0 rfl) ?_
    refine lv_bipush (v := 45) hx hb d_Model_sayNumber_5 (by decide) ?_
    obtain ⟨i_3, j_4, a_5, b_6, r_7, h_2, hm⟩ := om_some hm
    have hFc := x_free hD hS hA
    refine va_callv (va_runV (As := [.int 45]) (rest := []) ⟨hx, hb, hml, hown, hts⟩ (x_Model_say l dC dI cI cJ cB adK adV adA h v s.heap.size n h_2) (cwV 1 hts (tw_GV tw_cons cw_Model_say lk_Model_111 in_Model_say sel_Model_say ini_Model) rfl rfl rfl ⟨rfl, hd_Model_say⟩ ⟨Nat.le_of_ble_eq_true rfl, Nat.le_of_ble_eq_true rfl⟩) (ypV hK hP hD hS hE hFc yo_12 rfl) rfl rfl hl.1 rfl (lv_room (Nat.le_of_ble_eq_true rfl)) d_Model_sayNumber_7 ⟨Nat.le_of_ble_eq_true rfl, Nat.le_of_ble_eq_true rfl⟩) hS (fun q _ h => hFc q h) hFc (fun u9 t9 H locs ht hvm e9 hB hz1 hk1 hS => ?_)
    obtain ⟨hP, hD⟩ := y_aft hB ht hFc
    clear hFc hk1 hz1 hvm hB ht
    exact lb_Model_sayNumber_10 l dC dI cI cJ cB adK adV adA h v n hx hb hml hown hts hK hE hA hr hlocks _ _ _ _ _ hm _ _ _ hP hD hS (lv_sub hl [0, 1] rfl)

def m_Model_makes (n : Nat) (i : Nat → Int32) (j : Nat → Int64) (a : Nat → Nat → Int32) (b : Nat → Nat → Int64) (v1 : Int32) : Option ((Nat → Int32) × (Nat → Int64) × (Nat → Nat → Int32) × (Nat → Nat → Int64) × Int32) := if (((i 96) + v1)) ≤ ((30000 : Int32)) then ob1 ((i 96) + v1 : Int32) (fun x_2 => ob1 (upd i 96 x_2 : Nat → Int32) (fun i_3 => some (i_3, j, a, b, 1))) else om (m_Model_fails n i j a b (8 : Int32)) (fun i_5 j_6 a_7 b_8 r_9 => some (i_5, j_6, a_7, b_8, 0))
set_option maxHeartbeats 4000000 in
set_option maxRecDepth 100000 in
theorem x_Model_makes (l : Launch) (dC : Nat → ClassId) (dI : Nat → Nat → Nat) (cI cJ cB : ClassId) (adK adV adA : Nat → Nat) (h : Nat) (v : Nat → Nat) (sz : Nat) (n : Nat) {i : Nat → Int32} {j : Nat → Int64} {a : Nat → Nat → Int32} {b : Nat → Nat → Int64} {v1 : Int32} {i2 : Nat → Int32} {j2 : Nat → Int64} {a2 : Nat → Nat → Int32} {b2 : Nat → Nat → Int64} {r2 : Int32} (hm : m_Model_makes n i j a b v1 = some (i2, j2, a2, b2, r2)) : Met l y_Model_makes w_Model_makes ({ frames := 1, cells := 0, slots := 0, locals := 21 } : Room) (va_Pc [.ref h, .int v1] (yE dC dI cI cJ cB adK adV adA h v i j a b sz)) (va_Qi (xR r2) (yB dC dI cI cJ cB h v i2 j2 a2 b2 (va_A (MW cI cJ cB h v i j a b) sz)) (va_A (MW cI cJ cB h v i j a b) sz)) 0 0 ((va_A (MW cI cJ cB h v i j a b) sz)) := by
  refine Met.ofW (cc := b_Model_makes) (maxL := 2) (ret := (some .boolean)) (by decide) rfl ?_
  intro p e s m args below meth c s₁ B hml hv
  obtain ⟨rfl, hsz, hP, hK, hE, hD0⟩ := hv
  have hx := B.exec
  have hb := B.bytes
  have hr := B.returns
  have hts := atoms_spec (ws := w_Model_makes) B.pre
  have htt : ∀ w ∈ tw_T, w.before _ s = true := fun w h => hts w (List.mem_cons_of_mem _ h)
  have hown : s.vm.findClass R_Model = some m.cls := findClass_of_methodNamed B.named
  have hlocks := B.notSynchronized
  subst hsz
  have hD := hD0.self (sz := s.heap.size)
  generalize hAe : (va_A (MW cI cJ cB h v i j a b) s.heap.size) = A at hD hE ⊢
  have hA : ∀ q : Nat, s.heap.size ≤ q → A q := fun q h => by rw [← hAe]; exact Or.inr h
  have hS : va_S A s.heap s.heap [] := va_S.rf
  have hl := lv_entry ([.ref h, .int v1]) (n := 2) (Nat.le_of_ble_eq_true rfl)
  rw [lg_entry_eq]
  generalize (lg_sl ([.ref h, .int v1]) ++ List.replicate (2 - (lg_sl ([.ref h, .int v1])).length) Slot.unset).toArray = ls at hl ⊢
  have hl : lv_has ls 2 [(0, .ref h), (1, .int v1)] := hl
  rw [m_Model_makes] at hm
  refine lv_aload_n hx hb d_Model_makes_0 rfl (lv_at hl 0 rfl) ?_
  refine va_get (D := (dC, dI)) (ci := 12) (v := .int (i 96)) (C := R_Model) (T := F_Model) (N := 127) hx hb htt iw_Model hown hK hP 0 yo_12 rfl 96 (Nat.le_of_ble_eq_true rfl) (htt _ lk_Model_556) (fun _ h9 => h9) yg_96 d_Model_makes_1 ?_
  refine lv_iload_n hx hb d_Model_makes_4 rfl (lv_at hl 1 rfl) ?_
  refine lv_iadd hx hb d_Model_makes_5 ?_
  refine lv_sipush (v := 30000) hx hb d_Model_makes_6 (by decide) ?_
  refine lv_icmp_le (tgt := 21) hx hb d_Model_makes_9 (by decide) (fun c_1 => ?_) (fun c_1 => ?_)
  · replace hm := if_t c_1 hm
    refine lv_aload_n hx hb d_Model_makes_21 rfl (lv_at hl 0 rfl) ?_
    refine lv_dup hx hb d_Model_makes_22 rfl ?_
    refine va_get (D := (dC, dI)) (ci := 12) (v := .int (i 96)) (C := R_Model) (T := F_Model) (N := 127) hx hb htt iw_Model hown hK hP 0 yo_12 rfl 96 (Nat.le_of_ble_eq_true rfl) (htt _ lk_Model_556) (fun _ h9 => h9) yg_96 d_Model_makes_23 ?_
    refine lv_iload_n hx hb d_Model_makes_26 rfl (lv_at hl 1 rfl) ?_
    refine lv_iadd hx hb d_Model_makes_27 ?_
    refine lv_topi (fun x_2 ex_2 => ?_)
    replace hm := ob1_at ex_2 hm
    refine va_put (D := (dC, dI)) (ci := 12) (v := .int x_2) (ty := .int) (C := R_Model) (T := F_Model) (N := 127) hx hb htt iw_Model t_Model t_Model_ok n_Model hown hK hP hD hS 0 yo_12 rfl 96 (Nat.le_of_ble_eq_true rfl) (htt _ lk_Model_556) (fun _ h9 => h9) rfl (by decide +kernel) rfl rfl yl_96 d_Model_makes_28 (fun H locs hP hD hS => ?_)
    obtain ⟨i_3, ei_3⟩ : ∃ y9 : Nat → Int32, y9 = upd i 96 x_2 := ⟨_, rfl⟩
    replace hm := ob1_at ei_3 hm
    obtain ⟨hP, hD⟩ := yw_96 ei_3 hP hD
    refine lv_iconst (v := 1) hx hb d_Model_makes_31 (by decide) ?_
    obtain ⟨e1i, e1j, e1a, e1b, e3⟩ := re4m hm
    obtain ⟨hP, hD⟩ := y_eq e1i e1j e1a e1b hP hD
    exact W.zret hx hb hr (by decide) (fun t9 ht hW => ⟨⟨_, (), rfl, e3.symm, by rw [ht]; exact hP, hD⟩, hS.F ht⟩) hS.2.2 d_Model_makes_32
  · replace hm := if_f c_1 hm
    refine lv_aload_n hx hb d_Model_makes_12 rfl (lv_at hl 0 rfl) ?_
    refine lv_bipush (v := 8) hx hb d_Model_makes_13 (by decide) ?_
    obtain ⟨i_5, j_6, a_7, b_8, r_9, h_4, hm⟩ := om_some hm
    have hFc := x_free hD hS hA
    refine va_calll (va_runV (As := [.int 8]) (rest := []) ⟨hx, hb, hml, hown, hts⟩ (x_Model_fails l dC dI cI cJ cB adK adV adA h v s.heap.size n h_4) (cwV 1 hts (tw_GV tw_cons cw_Model_fails lk_Model_596 in_Model_fails sel_Model_fails ini_Model) rfl rfl rfl ⟨rfl, hd_Model_fails⟩ ⟨Nat.le_of_ble_eq_true rfl, Nat.le_of_ble_eq_true rfl⟩) (ypV hK hP hD hS hE hFc yo_12 rfl) rfl rfl hl.1 rfl (lv_room (Nat.le_of_ble_eq_true rfl)) d_Model_makes_15 ⟨Nat.le_of_ble_eq_true rfl, Nat.le_of_ble_eq_true rfl⟩) hS (fun q _ h => hFc q h) hFc (fun r9 u9 t9 H locs ht hvm e9 hB hz1 hk1 hS => ?_)
    have e9 : r_9 = r9 := e9
    subst e9
    obtain ⟨hP, hD⟩ := y_aft hB ht hFc
    clear hFc hk1 hz1 hvm hB ht
    refine lv_pop2_2 hx hb d_Model_makes_18 rfl ?_
    refine lv_iconst (v := 0) hx hb d_Model_makes_19 (by decide) ?_
    obtain ⟨e1i, e1j, e1a, e1b, e3⟩ := re4m hm
    obtain ⟨hP, hD⟩ := y_eq e1i e1j e1a e1b hP hD
    exact W.zret hx hb hr (by decide) (fun t9 ht hW => ⟨⟨_, (), rfl, e3.symm, by rw [ht]; exact hP, hD⟩, hS.F ht⟩) hS.2.2 d_Model_makes_20

def m_Model_putBack_b230 (n : Nat) : Nat → (Nat → Int32) → (Nat → Int64) → (Nat → Nat → Int32) → (Nat → Nat → Int64) → Int32 → Option ((Nat → Int32) × (Nat → Int64) × (Nat → Nat → Int32) × (Nat → Nat → Int64) × Int32)
  | 0, _, _, _, _, _ => none
  | f + 1, i, j, a, b, v1 => if ((i 19)) ≤ v1 then some (i, j, a, b, (0 : Int32)) else ck v1 120000 (ob1 (svl b 9 v1.toNatClampNeg 3 : Nat → Nat → Int64) (fun b_3 => ob1 (v1 + 1 : Int32) (fun x_4 => m_Model_putBack_b230 n f i j a b_3 x_4)))
set_option maxHeartbeats 4000000 in
set_option maxRecDepth 100000 in
theorem lb_Model_putBack_230 (l : Launch) (dC : Nat → ClassId) (dI : Nat → Nat → Nat) (cI cJ cB : ClassId) (adK adV adA : Nat → Nat) (h : Nat) (v : Nat → Nat) (n : Nat) {p : Program} {e : Env} {s : State} {m : MethodId} {args : Array Value} {below : List Frame} {meth : Method} {c : Code} {A : Nat → Prop} (hx : p.tables.exec = Jvm.exec) (hb : c.code = b_Model_putBack) (hml : c.maxLocals = 2) (hown : s.vm.findClass R_Model = some m.cls) (hts : ∀ w ∈ w_Model_putBack, w.before args s = true) (hK : va_K (dC, dI) classes [(cI, .int), (cJ, .long), (cB, .byte)] s) (hE : tw_E adK adV adA A s s.heap) (hA : ∀ q : Nat, s.heap.size ≤ q → A q) (hr : meth.sig.returnType = none) (hlocks : meth.locks = false) {i2 : Nat → Int32} {j2 : Nat → Int64} {a2 : Nat → Nat → Int32} {b2 : Nat → Nat → Int64} {r2 : Int32} : ∀ (f : Nat) (i : Nat → Int32) (j : Nat → Int64) (a : Nat → Nat → Int32) (b : Nat → Nat → Int64) (v1 : Int32), m_Model_putBack_b230 n f i j a b v1 = some (i2, j2, a2, b2, r2) → ∀ (H : Heap) (locs : List Loc) (ls : Array Slot), va_P (dC, dI) classes (MW cI cJ cB h v i j a b) H → va_D A (MW cI cJ cB h v i j a b) → va_S A s.heap H locs → lv_has ls 2 [(0, .ref h), (1, .int v1)] → W p l e ({ frames := 1, cells := 0, slots := 0, locals := 40 } : Room) s m args below meth c H locs 0 0 (MQ below (va_Qv xV (yB dC dI cI cJ cB h v i2 j2 a2 b2 A) A) args s 0 0 A) (F0 m 230 ls []) := by
  have htt : ∀ w ∈ tw_T, w.before _ s = true := fun w h => hts w (List.mem_cons_of_mem _ h)
  intro f
  induction f with
  | zero =>
    intro i j a b v1 hm
    rw [m_Model_putBack_b230] at hm
    cases hm
  | succ f ih =>
    intro i j a b v1 hm H locs ls hP hD hS hl
    rw [m_Model_putBack_b230] at hm
    refine lv_iload_n hx hb d_Model_putBack_230 rfl (lv_at hl 1 rfl) ?_
    refine lv_aload_n hx hb d_Model_putBack_231 rfl (lv_at hl 0 rfl) ?_
    refine va_get (D := (dC, dI)) (ci := 12) (v := .int (i 19)) (C := R_Model) (T := F_Model) (N := 127) hx hb htt iw_Model hown hK hP 0 yo_12 rfl 19 (Nat.le_of_ble_eq_true rfl) (htt _ lk_Model_19) (fun _ h9 => h9) yg_19 d_Model_putBack_232 ?_
    refine lv_icmp_ge (tgt := 253) hx hb d_Model_putBack_235 (by decide) (fun c_1 => ?_) (fun c_1 => ?_)
    · replace hm := if_t c_1 hm
      obtain ⟨e1i, e1j, e1a, e1b, e3⟩ := re4m hm
      obtain ⟨hP, hD⟩ := y_eq e1i e1j e1a e1b hP hD
      exact W.vret hx hb hr (fun t9 ht hW => ⟨⟨(), rfl, trivial, by rw [ht]; exact hP, hD⟩, hS.F ht⟩) hS.2.2 d_Model_putBack_253
    · replace hm := if_f c_1 hm
      refine lv_aload_n hx hb d_Model_putBack_238 rfl (lv_at hl 0 rfl) ?_
      refine va_get (D := (dC, dI)) (ci := 12) (v := .ref ((v 9))) (C := R_Model) (T := F_Model) (N := 127) hx hb htt iw_Model hown hK hP 0 yo_12 rfl 9 (Nat.le_of_ble_eq_true rfl) (htt _ lk_Model_28) (fun _ h9 => h9) yg_9 d_Model_putBack_239 ?_
      refine lv_iload_n hx hb d_Model_putBack_242 rfl (lv_at hl 1 rfl) ?_
      refine lv_ldc2 (v := 3) hx hb hown (htt _ lk_Model_7) d_Model_putBack_243 ?_
      obtain ⟨h_2, hm⟩ := ck_some hm
      refine va_last hx hb hK hP hD hS 9 1 ya_9 rfl h_2 d_Model_putBack_246 (fun H locs hP hD hS => ?_)
      obtain ⟨b_3, eb_3⟩ : ∃ y9 : Nat → Nat → Int64, y9 = svl b 9 v1.toNatClampNeg 3 := ⟨_, rfl⟩
      replace hm := ob1_at eb_3 hm
      obtain ⟨hP, hD⟩ := yv_9 eb_3 hP hD
      obtain ⟨x_4, ex_4⟩ : ∃ y9 : Int32, y9 = v1 + 1 := ⟨_, rfl⟩
      replace hm := ob1_at ex_4 hm
      refine lv_iinc (v := x_4) (lv' := [(1, .int x_4), (0, .ref h)]) hx hb d_Model_putBack_247 hl (k := 1) rfl (by rw [ex_4]; rfl) (by decide) rfl (fun ls hl => ?_)
      refine lv_goto (tgt := 230) hx hb d_Model_putBack_250 (by decide) ?_
      exact ih _ _ _ _ _ hm _ _ _ hP hD hS (lv_sub hl [1, 0] rfl)
def m_Model_putBack_b93 (n : Nat) : Nat → (Nat → Int32) → (Nat → Int64) → (Nat → Nat → Int32) → (Nat → Nat → Int64) → Int32 → Option ((Nat → Int32) × (Nat → Int64) × (Nat → Nat → Int32) × (Nat → Nat → Int64) × Int32)
  | 0, _, _, _, _, _ => none
  | f + 1, i, j, a, b, v1 => if ((7 : Int32)) ≤ v1 then cy ((0 : Int32)) ((0 : Int32)) ((4096 : Int32)) 4096 4096 (ob1 (updA a 44 (va_cpy (a 54) (a 44) (0 : Int32).toNatClampNeg (0 : Int32).toNatClampNeg (4096 : Int32).toNatClampNeg) : Nat → Nat → Int32) (fun a_3 => cy ((0 : Int32)) ((0 : Int32)) ((2000 : Int32)) 2000 2000 (cyb (a_3 57) ((0 : Int32)) ((2000 : Int32)) (ob1 (updA a_3 45 (va_cpy (a_3 57) (a_3 45) (0 : Int32).toNatClampNeg (0 : Int32).toNatClampNeg (2000 : Int32).toNatClampNeg) : Nat → Nat → Int32) (fun a_5 => ob1 (i 59 : Int32) (fun x_6 => ob1 (upd i 33 x_6 : Nat → Int32) (fun i_7 => ob1 (i_7 60 : Int32) (fun x_8 => ob1 (upd i_7 36 x_8 : Nat → Int32) (fun i_9 => ob1 (j 58 : Int64) (fun x_10 => ob1 (vp_updL j 48 x_10 : Nat → Int64) (fun j_11 => ob1 (i_9 61 : Int32) (fun x_12 => ob1 (upd i_9 46 x_12 : Nat → Int32) (fun i_13 => ob1 (i_13 62 : Int32) (fun x_14 => ob1 (upd i_13 47 x_14 : Nat → Int32) (fun i_15 => ob1 (i_15 63 : Int32) (fun x_16 => ob1 (upd i_15 18 x_16 : Nat → Int32) (fun i_17 => ob1 (i_17 64 : Int32) (fun x_18 => ob1 (upd i_17 19 x_18 : Nat → Int32) (fun i_19 => ob1 (i_19 65 : Int32) (fun x_20 => ob1 (upd i_19 20 x_20 : Nat → Int32) (fun i_21 => ob1 (i_21 66 : Int32) (fun x_22 => ob1 (upd i_21 21 x_22 : Nat → Int32) (fun i_23 => m_Model_putBack_b230 n n i_23 j_11 a_5 b (0 : Int32)))))))))))))))))))))))) else ob0 (m_Model_turtleRow n i j a b v1) (fun r_25 => cd r_25 (cy (8 * v1) ((0 : Int32)) ((8 : Int32)) 56 8 (ob1 (updA a r_25 (va_cpy (a 53) (a r_25) (8 * v1).toNatClampNeg (0 : Int32).toNatClampNeg (8 : Int32).toNatClampNeg) : Nat → Nat → Int32) (fun a_27 => ob1 (v1 + 1 : Int32) (fun x_28 => m_Model_putBack_b93 n f i j a_27 b x_28)))))
set_option maxHeartbeats 4000000 in
set_option maxRecDepth 100000 in
theorem lb_Model_putBack_93 (l : Launch) (dC : Nat → ClassId) (dI : Nat → Nat → Nat) (cI cJ cB : ClassId) (adK adV adA : Nat → Nat) (h : Nat) (v : Nat → Nat) (n : Nat) {p : Program} {e : Env} {s : State} {m : MethodId} {args : Array Value} {below : List Frame} {meth : Method} {c : Code} {A : Nat → Prop} (hx : p.tables.exec = Jvm.exec) (hb : c.code = b_Model_putBack) (hml : c.maxLocals = 2) (hown : s.vm.findClass R_Model = some m.cls) (hts : ∀ w ∈ w_Model_putBack, w.before args s = true) (hK : va_K (dC, dI) classes [(cI, .int), (cJ, .long), (cB, .byte)] s) (hE : tw_E adK adV adA A s s.heap) (hA : ∀ q : Nat, s.heap.size ≤ q → A q) (hr : meth.sig.returnType = none) (hlocks : meth.locks = false) {i2 : Nat → Int32} {j2 : Nat → Int64} {a2 : Nat → Nat → Int32} {b2 : Nat → Nat → Int64} {r2 : Int32} : ∀ (f : Nat) (i : Nat → Int32) (j : Nat → Int64) (a : Nat → Nat → Int32) (b : Nat → Nat → Int64) (v1 : Int32), m_Model_putBack_b93 n f i j a b v1 = some (i2, j2, a2, b2, r2) → ∀ (H : Heap) (locs : List Loc) (ls : Array Slot), va_P (dC, dI) classes (MW cI cJ cB h v i j a b) H → va_D A (MW cI cJ cB h v i j a b) → va_S A s.heap H locs → lv_has ls 2 [(0, .ref h), (1, .int v1)] → W p l e ({ frames := 1, cells := 0, slots := 0, locals := 40 } : Room) s m args below meth c H locs 0 0 (MQ below (va_Qv xV (yB dC dI cI cJ cB h v i2 j2 a2 b2 A) A) args s 0 0 A) (F0 m 93 ls []) := by
  have htt : ∀ w ∈ tw_T, w.before _ s = true := fun w h => hts w (List.mem_cons_of_mem _ h)
  intro f
  induction f with
  | zero =>
    intro i j a b v1 hm
    rw [m_Model_putBack_b93] at hm
    cases hm
  | succ f ih =>
    intro i j a b v1 hm H locs ls hP hD hS hl
    rw [m_Model_putBack_b93] at hm
    refine lv_iload_n hx hb d_Model_putBack_93 rfl (lv_at hl 1 rfl) ?_
    refine lv_bipush (v := 7) hx hb d_Model_putBack_94 (by decide) ?_
    refine lv_icmp_ge (tgt := 124) hx hb d_Model_putBack_96 (by decide) (fun c_1 => ?_) (fun c_1 => ?_)
    · replace hm := if_t c_1 hm
      refine lv_aload_n hx hb d_Model_putBack_124 rfl (lv_at hl 0 rfl) ?_
      refine va_get (D := (dC, dI)) (ci := 12) (v := .ref ((v 54))) (C := R_Model) (T := F_Model) (N := 127) hx hb htt iw_Model hown hK hP 0 yo_12 rfl 54 (Nat.le_of_ble_eq_true rfl) (htt _ lk_Model_243) (fun _ h9 => h9) yg_54 d_Model_putBack_125 ?_
      refine lv_iconst (v := 0) hx hb d_Model_putBack_128 (by decide) ?_
      refine lv_aload_n hx hb d_Model_putBack_129 rfl (lv_at hl 0 rfl) ?_
      refine va_get (D := (dC, dI)) (ci := 12) (v := .ref ((v 44))) (C := R_Model) (T := F_Model) (N := 127) hx hb htt iw_Model hown hK hP 0 yo_12 rfl 44 (Nat.le_of_ble_eq_true rfl) (htt _ lk_Model_222) (fun _ h9 => h9) yg_44 d_Model_putBack_130 ?_
      refine lv_iconst (v := 0) hx hb d_Model_putBack_133 (by decide) ?_
      refine lv_sipush (v := 4096) hx hb d_Model_putBack_134 (by decide) ?_
      obtain ⟨h_2a, h_2b, h_2c, h_2d, h_2e, hm⟩ := cy_some hm
      refine va_copyi hx hb (by rw [hml]; exact hl.1.symm) hown (htt _ lk_Model_334) (htt _ na_arraycopy) (htt _ st_arraycopy) (htt _ ini_System) hK hP hD hS 43 36 0 0 (ty := .int) ya_54 ya_44 rfl rfl rfl h_2a h_2b h_2c h_2d h_2e (fun _ _ => rfl) (Nat.le_of_ble_eq_true rfl) (Nat.le_of_ble_eq_true rfl) d_Model_putBack_137 (fun H locs hP hD hS => ?_)
      obtain ⟨a_3, ea_3⟩ : ∃ y9 : Nat → Nat → Int32, y9 = updA a 44 (va_cpy (a 54) (a 44) (0 : Int32).toNatClampNeg (0 : Int32).toNatClampNeg (4096 : Int32).toNatClampNeg) := ⟨_, rfl⟩
      replace hm := ob1_at ea_3 hm
      obtain ⟨hP, hD⟩ := yv_44 ea_3 hP hD
      refine lv_aload_n hx hb d_Model_putBack_140 rfl (lv_at hl 0 rfl) ?_
      refine va_get (D := (dC, dI)) (ci := 12) (v := .ref ((v 57))) (C := R_Model) (T := F_Model) (N := 127) hx hb htt iw_Model hown hK hP 0 yo_12 rfl 57 (Nat.le_of_ble_eq_true rfl) (htt _ lk_Model_252) (fun _ h9 => h9) yg_57 d_Model_putBack_141 ?_
      refine lv_iconst (v := 0) hx hb d_Model_putBack_144 (by decide) ?_
      refine lv_aload_n hx hb d_Model_putBack_145 rfl (lv_at hl 0 rfl) ?_
      refine va_get (D := (dC, dI)) (ci := 12) (v := .ref ((v 45))) (C := R_Model) (T := F_Model) (N := 127) hx hb htt iw_Model hown hK hP 0 yo_12 rfl 45 (Nat.le_of_ble_eq_true rfl) (htt _ lk_Model_225) (fun _ h9 => h9) yg_45 d_Model_putBack_146 ?_
      refine lv_iconst (v := 0) hx hb d_Model_putBack_149 (by decide) ?_
      refine lv_sipush (v := 2000) hx hb d_Model_putBack_150 (by decide) ?_
      obtain ⟨h_4a, h_4b, h_4c, h_4d, h_4e, hm⟩ := cy_some hm
      obtain ⟨h_4f, hm⟩ := cyb_some hm
      refine va_copyi hx hb (by rw [hml]; exact hl.1.symm) hown (htt _ lk_Model_334) (htt _ na_arraycopy) (htt _ st_arraycopy) (htt _ ini_System) hK hP hD hS 46 37 2 2 (ty := .byte) ya_57 ya_45 rfl rfl rfl h_4a h_4b h_4c h_4d h_4e h_4f (Nat.le_of_ble_eq_true rfl) (Nat.le_of_ble_eq_true rfl) d_Model_putBack_153 (fun H locs hP hD hS => ?_)
      obtain ⟨a_5, ea_5⟩ : ∃ y9 : Nat → Nat → Int32, y9 = updA a_3 45 (va_cpy (a_3 57) (a_3 45) (0 : Int32).toNatClampNeg (0 : Int32).toNatClampNeg (2000 : Int32).toNatClampNeg) := ⟨_, rfl⟩
      replace hm := ob1_at ea_5 hm
      obtain ⟨hP, hD⟩ := yv_45 ea_5 hP hD
      refine lv_aload_n hx hb d_Model_putBack_156 rfl (lv_at hl 0 rfl) ?_
      refine lv_aload_n hx hb d_Model_putBack_157 rfl (lv_at hl 0 rfl) ?_
      refine va_get (D := (dC, dI)) (ci := 12) (v := .int (i 59)) (C := R_Model) (T := F_Model) (N := 127) hx hb htt iw_Model hown hK hP 0 yo_12 rfl 59 (Nat.le_of_ble_eq_true rfl) (htt _ lk_Model_347) (fun _ h9 => h9) yg_59 d_Model_putBack_158 ?_
      refine lv_topi (fun x_6 ex_6 => ?_)
      replace hm := ob1_at ex_6 hm
      refine va_put (D := (dC, dI)) (ci := 12) (v := .int x_6) (ty := .int) (C := R_Model) (T := F_Model) (N := 127) hx hb htt iw_Model t_Model t_Model_ok n_Model hown hK hP hD hS 0 yo_12 rfl 33 (Nat.le_of_ble_eq_true rfl) (htt _ lk_Model_344) (fun _ h9 => h9) rfl (by decide +kernel) rfl rfl yl_33 d_Model_putBack_161 (fun H locs hP hD hS => ?_)
      obtain ⟨i_7, ei_7⟩ : ∃ y9 : Nat → Int32, y9 = upd i 33 x_6 := ⟨_, rfl⟩
      replace hm := ob1_at ei_7 hm
      obtain ⟨hP, hD⟩ := yw_33 ei_7 hP hD
      refine lv_aload_n hx hb d_Model_putBack_164 rfl (lv_at hl 0 rfl) ?_
      refine lv_aload_n hx hb d_Model_putBack_165 rfl (lv_at hl 0 rfl) ?_
      refine va_get (D := (dC, dI)) (ci := 12) (v := .int (i_7 60)) (C := R_Model) (T := F_Model) (N := 127) hx hb htt iw_Model hown hK hP 0 yo_12 rfl 60 (Nat.le_of_ble_eq_true rfl) (htt _ lk_Model_353) (fun _ h9 => h9) yg_60 d_Model_putBack_166 ?_
      refine lv_topi (fun x_8 ex_8 => ?_)
      replace hm := ob1_at ex_8 hm
      refine va_put (D := (dC, dI)) (ci := 12) (v := .int x_8) (ty := .int) (C := R_Model) (T := F_Model) (N := 127) hx hb htt iw_Model t_Model t_Model_ok n_Model hown hK hP hD hS 0 yo_12 rfl 36 (Nat.le_of_ble_eq_true rfl) (htt _ lk_Model_350) (fun _ h9 => h9) rfl (by decide +kernel) rfl rfl yl_36 d_Model_putBack_169 (fun H locs hP hD hS => ?_)
      obtain ⟨i_9, ei_9⟩ : ∃ y9 : Nat → Int32, y9 = upd i_7 36 x_8 := ⟨_, rfl⟩
      replace hm := ob1_at ei_9 hm
      obtain ⟨hP, hD⟩ := yw_36 ei_9 hP hD
      refine lv_aload_n hx hb d_Model_putBack_172 rfl (lv_at hl 0 rfl) ?_
      refine lv_aload_n hx hb d_Model_putBack_173 rfl (lv_at hl 0 rfl) ?_
      refine va_get (D := (dC, dI)) (ci := 12) (v := .long (j 58)) (C := R_Model) (T := F_Model) (N := 127) hx hb htt iw_Model hown hK hP 0 yo_12 rfl 58 (Nat.le_of_ble_eq_true rfl) (htt _ lk_Model_360) (fun _ h9 => h9) yg_58 d_Model_putBack_174 ?_
      refine lv_topl (fun x_10 ex_10 => ?_)
      replace hm := ob1_at ex_10 hm
      refine va_put (D := (dC, dI)) (ci := 12) (v := .long x_10) (ty := .long) (C := R_Model) (T := F_Model) (N := 127) hx hb htt iw_Model t_Model t_Model_ok n_Model hown hK hP hD hS 0 yo_12 rfl 48 (Nat.le_of_ble_eq_true rfl) (htt _ lk_Model_356) (fun _ h9 => h9) rfl (by decide +kernel) rfl rfl yl_48 d_Model_putBack_177 (fun H locs hP hD hS => ?_)
      obtain ⟨j_11, ej_11⟩ : ∃ y9 : Nat → Int64, y9 = vp_updL j 48 x_10 := ⟨_, rfl⟩
      replace hm := ob1_at ej_11 hm
      obtain ⟨hP, hD⟩ := yw_48 ej_11 hP hD
      refine lv_aload_n hx hb d_Model_putBack_180 rfl (lv_at hl 0 rfl) ?_
      refine lv_aload_n hx hb d_Model_putBack_181 rfl (lv_at hl 0 rfl) ?_
      refine va_get (D := (dC, dI)) (ci := 12) (v := .int (i_9 61)) (C := R_Model) (T := F_Model) (N := 127) hx hb htt iw_Model hown hK hP 0 yo_12 rfl 61 (Nat.le_of_ble_eq_true rfl) (htt _ lk_Model_363) (fun _ h9 => h9) yg_61 d_Model_putBack_182 ?_
      refine lv_topi (fun x_12 ex_12 => ?_)
      replace hm := ob1_at ex_12 hm
      refine va_put (D := (dC, dI)) (ci := 12) (v := .int x_12) (ty := .int) (C := R_Model) (T := F_Model) (N := 127) hx hb htt iw_Model t_Model t_Model_ok n_Model hown hK hP hD hS 0 yo_12 rfl 46 (Nat.le_of_ble_eq_true rfl) (htt _ lk_Model_331) (fun _ h9 => h9) rfl (by decide +kernel) rfl rfl yl_46 d_Model_putBack_185 (fun H locs hP hD hS => ?_)
      obtain ⟨i_13, ei_13⟩ : ∃ y9 : Nat → Int32, y9 = upd i_9 46 x_12 := ⟨_, rfl⟩
      replace hm := ob1_at ei_13 hm
      obtain ⟨hP, hD⟩ := yw_46 ei_13 hP hD
      refine lv_aload_n hx hb d_Model_putBack_188 rfl (lv_at hl 0 rfl) ?_
      refine lv_aload_n hx hb d_Model_putBack_189 rfl (lv_at hl 0 rfl) ?_
      refine va_get (D := (dC, dI)) (ci := 12) (v := .int (i_13 62)) (C := R_Model) (T := F_Model) (N := 127) hx hb htt iw_Model hown hK hP 0 yo_12 rfl 62 (Nat.le_of_ble_eq_true rfl) (htt _ lk_Model_369) (fun _ h9 => h9) yg_62 d_Model_putBack_190 ?_
      refine lv_topi (fun x_14 ex_14 => ?_)
      replace hm := ob1_at ex_14 hm
      refine va_put (D := (dC, dI)) (ci := 12) (v := .int x_14) (ty := .int) (C := R_Model) (T := F_Model) (N := 127) hx hb htt iw_Model t_Model t_Model_ok n_Model hown hK hP hD hS 0 yo_12 rfl 47 (Nat.le_of_ble_eq_true rfl) (htt _ lk_Model_366) (fun _ h9 => h9) rfl (by decide +kernel) rfl rfl yl_47 d_Model_putBack_193 (fun H locs hP hD hS => ?_)
      obtain ⟨i_15, ei_15⟩ : ∃ y9 : Nat → Int32, y9 = upd i_13 47 x_14 := ⟨_, rfl⟩
      replace hm := ob1_at ei_15 hm
      obtain ⟨hP, hD⟩ := yw_47 ei_15 hP hD
      refine lv_aload_n hx hb d_Model_putBack_196 rfl (lv_at hl 0 rfl) ?_
      refine lv_aload_n hx hb d_Model_putBack_197 rfl (lv_at hl 0 rfl) ?_
      refine va_get (D := (dC, dI)) (ci := 12) (v := .int (i_15 63)) (C := R_Model) (T := F_Model) (N := 127) hx hb htt iw_Model hown hK hP 0 yo_12 rfl 63 (Nat.le_of_ble_eq_true rfl) (htt _ lk_Model_375) (fun _ h9 => h9) yg_63 d_Model_putBack_198 ?_
      refine lv_topi (fun x_16 ex_16 => ?_)
      replace hm := ob1_at ex_16 hm
      refine va_put (D := (dC, dI)) (ci := 12) (v := .int x_16) (ty := .int) (C := R_Model) (T := F_Model) (N := 127) hx hb htt iw_Model t_Model t_Model_ok n_Model hown hK hP hD hS 0 yo_12 rfl 18 (Nat.le_of_ble_eq_true rfl) (htt _ lk_Model_372) (fun _ h9 => h9) rfl (by decide +kernel) rfl rfl yl_18 d_Model_putBack_201 (fun H locs hP hD hS => ?_)
      obtain ⟨i_17, ei_17⟩ : ∃ y9 : Nat → Int32, y9 = upd i_15 18 x_16 := ⟨_, rfl⟩
      replace hm := ob1_at ei_17 hm
      obtain ⟨hP, hD⟩ := yw_18 ei_17 hP hD
      refine lv_aload_n hx hb d_Model_putBack_204 rfl (lv_at hl 0 rfl) ?_
      refine lv_aload_n hx hb d_Model_putBack_205 rfl (lv_at hl 0 rfl) ?_
      refine va_get (D := (dC, dI)) (ci := 12) (v := .int (i_17 64)) (C := R_Model) (T := F_Model) (N := 127) hx hb htt iw_Model hown hK hP 0 yo_12 rfl 64 (Nat.le_of_ble_eq_true rfl) (htt _ lk_Model_378) (fun _ h9 => h9) yg_64 d_Model_putBack_206 ?_
      refine lv_topi (fun x_18 ex_18 => ?_)
      replace hm := ob1_at ex_18 hm
      refine va_put (D := (dC, dI)) (ci := 12) (v := .int x_18) (ty := .int) (C := R_Model) (T := F_Model) (N := 127) hx hb htt iw_Model t_Model t_Model_ok n_Model hown hK hP hD hS 0 yo_12 rfl 19 (Nat.le_of_ble_eq_true rfl) (htt _ lk_Model_19) (fun _ h9 => h9) rfl (by decide +kernel) rfl rfl yl_19 d_Model_putBack_209 (fun H locs hP hD hS => ?_)
      obtain ⟨i_19, ei_19⟩ : ∃ y9 : Nat → Int32, y9 = upd i_17 19 x_18 := ⟨_, rfl⟩
      replace hm := ob1_at ei_19 hm
      obtain ⟨hP, hD⟩ := yw_19 ei_19 hP hD
      refine lv_aload_n hx hb d_Model_putBack_212 rfl (lv_at hl 0 rfl) ?_
      refine lv_aload_n hx hb d_Model_putBack_213 rfl (lv_at hl 0 rfl) ?_
      refine va_get (D := (dC, dI)) (ci := 12) (v := .int (i_19 65)) (C := R_Model) (T := F_Model) (N := 127) hx hb htt iw_Model hown hK hP 0 yo_12 rfl 65 (Nat.le_of_ble_eq_true rfl) (htt _ lk_Model_381) (fun _ h9 => h9) yg_65 d_Model_putBack_214 ?_
      refine lv_topi (fun x_20 ex_20 => ?_)
      replace hm := ob1_at ex_20 hm
      refine va_put (D := (dC, dI)) (ci := 12) (v := .int x_20) (ty := .int) (C := R_Model) (T := F_Model) (N := 127) hx hb htt iw_Model t_Model t_Model_ok n_Model hown hK hP hD hS 0 yo_12 rfl 20 (Nat.le_of_ble_eq_true rfl) (htt _ lk_Model_32) (fun _ h9 => h9) rfl (by decide +kernel) rfl rfl yl_20 d_Model_putBack_217 (fun H locs hP hD hS => ?_)
      obtain ⟨i_21, ei_21⟩ : ∃ y9 : Nat → Int32, y9 = upd i_19 20 x_20 := ⟨_, rfl⟩
      replace hm := ob1_at ei_21 hm
      obtain ⟨hP, hD⟩ := yw_20 ei_21 hP hD
      refine lv_aload_n hx hb d_Model_putBack_220 rfl (lv_at hl 0 rfl) ?_
      refine lv_aload_n hx hb d_Model_putBack_221 rfl (lv_at hl 0 rfl) ?_
      refine va_get (D := (dC, dI)) (ci := 12) (v := .int (i_21 66)) (C := R_Model) (T := F_Model) (N := 127) hx hb htt iw_Model hown hK hP 0 yo_12 rfl 66 (Nat.le_of_ble_eq_true rfl) (htt _ lk_Model_384) (fun _ h9 => h9) yg_66 d_Model_putBack_222 ?_
      refine lv_topi (fun x_22 ex_22 => ?_)
      replace hm := ob1_at ex_22 hm
      refine va_put (D := (dC, dI)) (ci := 12) (v := .int x_22) (ty := .int) (C := R_Model) (T := F_Model) (N := 127) hx hb htt iw_Model t_Model t_Model_ok n_Model hown hK hP hD hS 0 yo_12 rfl 21 (Nat.le_of_ble_eq_true rfl) (htt _ lk_Model_44) (fun _ h9 => h9) rfl (by decide +kernel) rfl rfl yl_21 d_Model_putBack_225 (fun H locs hP hD hS => ?_)
      obtain ⟨i_23, ei_23⟩ : ∃ y9 : Nat → Int32, y9 = upd i_21 21 x_22 := ⟨_, rfl⟩
      replace hm := ob1_at ei_23 hm
      obtain ⟨hP, hD⟩ := yw_21 ei_23 hP hD
      refine lv_iconst (v := 0) hx hb d_Model_putBack_228 (by decide) ?_
      refine lv_istore_n (lv' := [(1, .int 0), (0, .ref h)]) hx hb d_Model_putBack_229 rfl hl (by decide) rfl (fun ls hl => ?_)
      exact lb_Model_putBack_230 l dC dI cI cJ cB adK adV adA h v n hx hb hml hown hts hK hE hA hr hlocks n _ _ _ _ _ hm _ _ _ hP hD hS (lv_sub hl [1, 0] rfl)
    · replace hm := if_f c_1 hm
      refine lv_aload_n hx hb d_Model_putBack_99 rfl (lv_at hl 0 rfl) ?_
      refine va_get (D := (dC, dI)) (ci := 12) (v := .ref ((v 53))) (C := R_Model) (T := F_Model) (N := 127) hx hb htt iw_Model hown hK hP 0 yo_12 rfl 53 (Nat.le_of_ble_eq_true rfl) (htt _ lk_Model_240) (fun _ h9 => h9) yg_53 d_Model_putBack_100 ?_
      refine lv_bipush (v := 8) hx hb d_Model_putBack_103 (by decide) ?_
      refine lv_iload_n hx hb d_Model_putBack_105 rfl (lv_at hl 1 rfl) ?_
      refine lv_imul hx hb d_Model_putBack_106 ?_
      refine lv_aload_n hx hb d_Model_putBack_107 rfl (lv_at hl 0 rfl) ?_
      refine lv_iload_n hx hb d_Model_putBack_108 rfl (lv_at hl 1 rfl) ?_
      obtain ⟨r_25, h_24, hm⟩ := ob0_some hm
      have hFc := x_free0 hS hA
      refine va_callr (va_runV (As := [.int v1]) (rest := [.int (8 * v1), .ref ((v 53))]) ⟨hx, hb, hml, hown, hts⟩ (x_Model_turtleRow l dC dI cI cJ cB adK adV adA h v H.size n h_24) (cwV 1 hts (tw_GV tw_cons cw_Model_turtleRow lk_Model_340 in_Model_turtleRow sel_Model_turtleRow ini_Model) rfl rfl rfl ⟨rfl, hd_Model_turtleRow⟩ ⟨Nat.le_of_ble_eq_true rfl, Nat.le_of_ble_eq_true rfl⟩) (ypVr hK hP hS hE hFc yo_12 rfl) rfl rfl hl.1 rfl (lv_room (Nat.le_of_ble_eq_true rfl)) d_Model_putBack_109 ⟨Nat.le_of_ble_eq_true rfl, Nat.le_of_ble_eq_true rfl⟩) hS (fun q _ h => hFc q h) hFc (fun u9 q9 t9 H locs ht hvm e9 hB hz1 hk1 hS => ?_)
      have hB : q9 = v r_25 := hB
      subst hB
      obtain ⟨hr_25, hm⟩ := cd_some hm
      replace hP := x_keep hP hk1
      clear hFc hk1 hz1 hvm ht
      refine lv_iconst (v := 0) hx hb d_Model_putBack_112 (by decide) ?_
      refine lv_bipush (v := 8) hx hb d_Model_putBack_113 (by decide) ?_
      obtain ⟨h_26a, h_26b, h_26c, h_26d, h_26e, hm⟩ := cy_some hm
      refine va_copyi hx hb (by rw [hml]; exact hl.1.symm) hown (htt _ lk_Model_334) (htt _ na_arraycopy) (htt _ st_arraycopy) (htt _ ini_System) hK hP hD hS 42 (29 + (r_25 - 37)) 0 0 (ty := .int) ya_53 (ya_t r_25 hr_25) rfl rfl rfl h_26a h_26b h_26c h_26d h_26e (fun _ _ => rfl) (Nat.le_of_ble_eq_true rfl) (Nat.le_of_ble_eq_true rfl) d_Model_putBack_115 (fun H locs hP hD hS => ?_)
      obtain ⟨a_27, ea_27⟩ : ∃ y9 : Nat → Nat → Int32, y9 = updA a r_25 (va_cpy (a 53) (a r_25) (8 * v1).toNatClampNeg (0 : Int32).toNatClampNeg (8 : Int32).toNatClampNeg) := ⟨_, rfl⟩
      replace hm := ob1_at ea_27 hm
      obtain ⟨hP, hD⟩ := yv_t hr_25 ea_27 hP hD
      obtain ⟨x_28, ex_28⟩ : ∃ y9 : Int32, y9 = v1 + 1 := ⟨_, rfl⟩
      replace hm := ob1_at ex_28 hm
      refine lv_iinc (v := x_28) (lv' := [(1, .int x_28), (0, .ref h)]) hx hb d_Model_putBack_118 hl (k := 1) rfl (by rw [ex_28]; rfl) (by decide) rfl (fun ls hl => ?_)
      refine lv_goto (tgt := 93) hx hb d_Model_putBack_121 (by decide) ?_
      exact ih _ _ _ _ _ hm _ _ _ hP hD hS (lv_sub hl [1, 0] rfl)
def m_Model_putBack (n : Nat) (i : Nat → Int32) (j : Nat → Int64) (a : Nat → Nat → Int32) (b : Nat → Nat → Int64)  : Option ((Nat → Int32) × (Nat → Int64) × (Nat → Nat → Int32) × (Nat → Nat → Int64) × Int32) := cy ((0 : Int32)) ((0 : Int32)) ((40 : Int32)) 40 40 (ob1 (updA a 29 (va_cpy (a 49) (a 29) (0 : Int32).toNatClampNeg (0 : Int32).toNatClampNeg (40 : Int32).toNatClampNeg) : Nat → Nat → Int32) (fun a_2 => cy ((0 : Int32)) ((0 : Int32)) ((40 : Int32)) 40 40 (ob1 (updA a_2 30 (va_cpy (a_2 50) (a_2 30) (0 : Int32).toNatClampNeg (0 : Int32).toNatClampNeg (40 : Int32).toNatClampNeg) : Nat → Nat → Int32) (fun a_4 => cy ((0 : Int32)) ((0 : Int32)) ((200 : Int32)) 200 200 (ob1 (updA a_4 31 (va_cpy (a_4 51) (a_4 31) (0 : Int32).toNatClampNeg (0 : Int32).toNatClampNeg (200 : Int32).toNatClampNeg) : Nat → Nat → Int32) (fun a_6 => cy ((0 : Int32)) ((0 : Int32)) ((40 : Int32)) 40 40 (ob1 (updB b 32 (va_cpy (b 55) (b 32) (0 : Int32).toNatClampNeg (0 : Int32).toNatClampNeg (40 : Int32).toNatClampNeg) : Nat → Nat → Int64) (fun b_8 => cy ((0 : Int32)) ((0 : Int32)) ((64 : Int32)) 64 64 (ob1 (updA a_6 34 (va_cpy (a_6 52) (a_6 34) (0 : Int32).toNatClampNeg (0 : Int32).toNatClampNeg (64 : Int32).toNatClampNeg) : Nat → Nat → Int32) (fun a_10 => cy ((0 : Int32)) ((0 : Int32)) ((64 : Int32)) 64 64 (ob1 (updB b_8 35 (va_cpy (b_8 56) (b_8 35) (0 : Int32).toNatClampNeg (0 : Int32).toNatClampNeg (64 : Int32).toNatClampNeg) : Nat → Nat → Int64) (fun b_12 => m_Model_putBack_b93 n n i j a_10 b_12 (0 : Int32)))))))))))))
set_option maxHeartbeats 4000000 in
set_option maxRecDepth 100000 in
theorem x_Model_putBack (l : Launch) (dC : Nat → ClassId) (dI : Nat → Nat → Nat) (cI cJ cB : ClassId) (adK adV adA : Nat → Nat) (h : Nat) (v : Nat → Nat) (sz : Nat) (n : Nat) {i : Nat → Int32} {j : Nat → Int64} {a : Nat → Nat → Int32} {b : Nat → Nat → Int64}  {i2 : Nat → Int32} {j2 : Nat → Int64} {a2 : Nat → Nat → Int32} {b2 : Nat → Nat → Int64} {r2 : Int32} (hm : m_Model_putBack n i j a b = some (i2, j2, a2, b2, r2)) : Met l y_Model_putBack w_Model_putBack ({ frames := 1, cells := 0, slots := 0, locals := 40 } : Room) (va_Pc [.ref h] (yE dC dI cI cJ cB adK adV adA h v i j a b sz)) (va_Qv xV (yB dC dI cI cJ cB h v i2 j2 a2 b2 (va_A (MW cI cJ cB h v i j a b) sz)) (va_A (MW cI cJ cB h v i j a b) sz)) 0 0 ((va_A (MW cI cJ cB h v i j a b) sz)) := by
  refine Met.ofW (cc := b_Model_putBack) (maxL := 2) (ret := none) (by decide) rfl ?_
  intro p e s m args below meth c s₁ B hml hv
  obtain ⟨rfl, hsz, hP, hK, hE, hD0⟩ := hv
  have hx := B.exec
  have hb := B.bytes
  have hr := B.returns
  have hts := atoms_spec (ws := w_Model_putBack) B.pre
  have htt : ∀ w ∈ tw_T, w.before _ s = true := fun w h => hts w (List.mem_cons_of_mem _ h)
  have hown : s.vm.findClass R_Model = some m.cls := findClass_of_methodNamed B.named
  have hlocks := B.notSynchronized
  subst hsz
  have hD := hD0.self (sz := s.heap.size)
  generalize hAe : (va_A (MW cI cJ cB h v i j a b) s.heap.size) = A at hD hE ⊢
  have hA : ∀ q : Nat, s.heap.size ≤ q → A q := fun q h => by rw [← hAe]; exact Or.inr h
  have hS : va_S A s.heap s.heap [] := va_S.rf
  have hl := lv_entry ([.ref h]) (n := 2) (Nat.le_of_ble_eq_true rfl)
  rw [lg_entry_eq]
  generalize (lg_sl ([.ref h]) ++ List.replicate (2 - (lg_sl ([.ref h])).length) Slot.unset).toArray = ls at hl ⊢
  have hl : lv_has ls 2 [(0, .ref h)] := hl
  rw [m_Model_putBack] at hm
  refine lv_aload_n hx hb d_Model_putBack_0 rfl (lv_at hl 0 rfl) ?_
  refine va_get (D := (dC, dI)) (ci := 12) (v := .ref ((v 49))) (C := R_Model) (T := F_Model) (N := 127) hx hb htt iw_Model hown hK hP 0 yo_12 rfl 49 (Nat.le_of_ble_eq_true rfl) (htt _ lk_Model_228) (fun _ h9 => h9) yg_49 d_Model_putBack_1 ?_
  refine lv_iconst (v := 0) hx hb d_Model_putBack_4 (by decide) ?_
  refine lv_aload_n hx hb d_Model_putBack_5 rfl (lv_at hl 0 rfl) ?_
  refine va_get (D := (dC, dI)) (ci := 12) (v := .ref ((v 29))) (C := R_Model) (T := F_Model) (N := 127) hx hb htt iw_Model hown hK hP 0 yo_12 rfl 29 (Nat.le_of_ble_eq_true rfl) (htt _ lk_Model_183) (fun _ h9 => h9) yg_29 d_Model_putBack_6 ?_
  refine lv_iconst (v := 0) hx hb d_Model_putBack_9 (by decide) ?_
  refine lv_bipush (v := 40) hx hb d_Model_putBack_10 (by decide) ?_
  obtain ⟨h_1a, h_1b, h_1c, h_1d, h_1e, hm⟩ := cy_some hm
  refine va_copyi hx hb (by rw [hml]; exact hl.1.symm) hown (htt _ lk_Model_334) (htt _ na_arraycopy) (htt _ st_arraycopy) (htt _ ini_System) hK hP hD hS 38 23 0 0 (ty := .int) ya_49 ya_29 rfl rfl rfl h_1a h_1b h_1c h_1d h_1e (fun _ _ => rfl) (Nat.le_of_ble_eq_true rfl) (Nat.le_of_ble_eq_true rfl) d_Model_putBack_12 (fun H locs hP hD hS => ?_)
  obtain ⟨a_2, ea_2⟩ : ∃ y9 : Nat → Nat → Int32, y9 = updA a 29 (va_cpy (a 49) (a 29) (0 : Int32).toNatClampNeg (0 : Int32).toNatClampNeg (40 : Int32).toNatClampNeg) := ⟨_, rfl⟩
  replace hm := ob1_at ea_2 hm
  obtain ⟨hP, hD⟩ := yv_29 ea_2 hP hD
  refine lv_aload_n hx hb d_Model_putBack_15 rfl (lv_at hl 0 rfl) ?_
  refine va_get (D := (dC, dI)) (ci := 12) (v := .ref ((v 50))) (C := R_Model) (T := F_Model) (N := 127) hx hb htt iw_Model hown hK hP 0 yo_12 rfl 50 (Nat.le_of_ble_eq_true rfl) (htt _ lk_Model_231) (fun _ h9 => h9) yg_50 d_Model_putBack_16 ?_
  refine lv_iconst (v := 0) hx hb d_Model_putBack_19 (by decide) ?_
  refine lv_aload_n hx hb d_Model_putBack_20 rfl (lv_at hl 0 rfl) ?_
  refine va_get (D := (dC, dI)) (ci := 12) (v := .ref ((v 30))) (C := R_Model) (T := F_Model) (N := 127) hx hb htt iw_Model hown hK hP 0 yo_12 rfl 30 (Nat.le_of_ble_eq_true rfl) (htt _ lk_Model_186) (fun _ h9 => h9) yg_30 d_Model_putBack_21 ?_
  refine lv_iconst (v := 0) hx hb d_Model_putBack_24 (by decide) ?_
  refine lv_bipush (v := 40) hx hb d_Model_putBack_25 (by decide) ?_
  obtain ⟨h_3a, h_3b, h_3c, h_3d, h_3e, hm⟩ := cy_some hm
  refine va_copyi hx hb (by rw [hml]; exact hl.1.symm) hown (htt _ lk_Model_334) (htt _ na_arraycopy) (htt _ st_arraycopy) (htt _ ini_System) hK hP hD hS 39 24 0 0 (ty := .int) ya_50 ya_30 rfl rfl rfl h_3a h_3b h_3c h_3d h_3e (fun _ _ => rfl) (Nat.le_of_ble_eq_true rfl) (Nat.le_of_ble_eq_true rfl) d_Model_putBack_27 (fun H locs hP hD hS => ?_)
  obtain ⟨a_4, ea_4⟩ : ∃ y9 : Nat → Nat → Int32, y9 = updA a_2 30 (va_cpy (a_2 50) (a_2 30) (0 : Int32).toNatClampNeg (0 : Int32).toNatClampNeg (40 : Int32).toNatClampNeg) := ⟨_, rfl⟩
  replace hm := ob1_at ea_4 hm
  obtain ⟨hP, hD⟩ := yv_30 ea_4 hP hD
  refine lv_aload_n hx hb d_Model_putBack_30 rfl (lv_at hl 0 rfl) ?_
  refine va_get (D := (dC, dI)) (ci := 12) (v := .ref ((v 51))) (C := R_Model) (T := F_Model) (N := 127) hx hb htt iw_Model hown hK hP 0 yo_12 rfl 51 (Nat.le_of_ble_eq_true rfl) (htt _ lk_Model_234) (fun _ h9 => h9) yg_51 d_Model_putBack_31 ?_
  refine lv_iconst (v := 0) hx hb d_Model_putBack_34 (by decide) ?_
  refine lv_aload_n hx hb d_Model_putBack_35 rfl (lv_at hl 0 rfl) ?_
  refine va_get (D := (dC, dI)) (ci := 12) (v := .ref ((v 31))) (C := R_Model) (T := F_Model) (N := 127) hx hb htt iw_Model hown hK hP 0 yo_12 rfl 31 (Nat.le_of_ble_eq_true rfl) (htt _ lk_Model_189) (fun _ h9 => h9) yg_31 d_Model_putBack_36 ?_
  refine lv_iconst (v := 0) hx hb d_Model_putBack_39 (by decide) ?_
  refine lv_sipush (v := 200) hx hb d_Model_putBack_40 (by decide) ?_
  obtain ⟨h_5a, h_5b, h_5c, h_5d, h_5e, hm⟩ := cy_some hm
  refine va_copyi hx hb (by rw [hml]; exact hl.1.symm) hown (htt _ lk_Model_334) (htt _ na_arraycopy) (htt _ st_arraycopy) (htt _ ini_System) hK hP hD hS 40 25 0 0 (ty := .int) ya_51 ya_31 rfl rfl rfl h_5a h_5b h_5c h_5d h_5e (fun _ _ => rfl) (Nat.le_of_ble_eq_true rfl) (Nat.le_of_ble_eq_true rfl) d_Model_putBack_43 (fun H locs hP hD hS => ?_)
  obtain ⟨a_6, ea_6⟩ : ∃ y9 : Nat → Nat → Int32, y9 = updA a_4 31 (va_cpy (a_4 51) (a_4 31) (0 : Int32).toNatClampNeg (0 : Int32).toNatClampNeg (200 : Int32).toNatClampNeg) := ⟨_, rfl⟩
  replace hm := ob1_at ea_6 hm
  obtain ⟨hP, hD⟩ := yv_31 ea_6 hP hD
  refine lv_aload_n hx hb d_Model_putBack_46 rfl (lv_at hl 0 rfl) ?_
  refine va_get (D := (dC, dI)) (ci := 12) (v := .ref ((v 55))) (C := R_Model) (T := F_Model) (N := 127) hx hb htt iw_Model hown hK hP 0 yo_12 rfl 55 (Nat.le_of_ble_eq_true rfl) (htt _ lk_Model_246) (fun _ h9 => h9) yg_55 d_Model_putBack_47 ?_
  refine lv_iconst (v := 0) hx hb d_Model_putBack_50 (by decide) ?_
  refine lv_aload_n hx hb d_Model_putBack_51 rfl (lv_at hl 0 rfl) ?_
  refine va_get (D := (dC, dI)) (ci := 12) (v := .ref ((v 32))) (C := R_Model) (T := F_Model) (N := 127) hx hb htt iw_Model hown hK hP 0 yo_12 rfl 32 (Nat.le_of_ble_eq_true rfl) (htt _ lk_Model_192) (fun _ h9 => h9) yg_32 d_Model_putBack_52 ?_
  refine lv_iconst (v := 0) hx hb d_Model_putBack_55 (by decide) ?_
  refine lv_bipush (v := 40) hx hb d_Model_putBack_56 (by decide) ?_
  obtain ⟨h_7a, h_7b, h_7c, h_7d, h_7e, hm⟩ := cy_some hm
  refine va_copyl hx hb (by rw [hml]; exact hl.1.symm) hown (htt _ lk_Model_334) (htt _ na_arraycopy) (htt _ st_arraycopy) (htt _ ini_System) hK hP hD hS 44 26 1 1 (ty := .long) ya_55 ya_32 rfl rfl rfl h_7a h_7b h_7c h_7d h_7e (fun _ _ => rfl) (Nat.le_of_ble_eq_true rfl) (Nat.le_of_ble_eq_true rfl) d_Model_putBack_58 (fun H locs hP hD hS => ?_)
  obtain ⟨b_8, eb_8⟩ : ∃ y9 : Nat → Nat → Int64, y9 = updB b 32 (va_cpy (b 55) (b 32) (0 : Int32).toNatClampNeg (0 : Int32).toNatClampNeg (40 : Int32).toNatClampNeg) := ⟨_, rfl⟩
  replace hm := ob1_at eb_8 hm
  obtain ⟨hP, hD⟩ := yv_32 eb_8 hP hD
  refine lv_aload_n hx hb d_Model_putBack_61 rfl (lv_at hl 0 rfl) ?_
  refine va_get (D := (dC, dI)) (ci := 12) (v := .ref ((v 52))) (C := R_Model) (T := F_Model) (N := 127) hx hb htt iw_Model hown hK hP 0 yo_12 rfl 52 (Nat.le_of_ble_eq_true rfl) (htt _ lk_Model_237) (fun _ h9 => h9) yg_52 d_Model_putBack_62 ?_
  refine lv_iconst (v := 0) hx hb d_Model_putBack_65 (by decide) ?_
  refine lv_aload_n hx hb d_Model_putBack_66 rfl (lv_at hl 0 rfl) ?_
  refine va_get (D := (dC, dI)) (ci := 12) (v := .ref ((v 34))) (C := R_Model) (T := F_Model) (N := 127) hx hb htt iw_Model hown hK hP 0 yo_12 rfl 34 (Nat.le_of_ble_eq_true rfl) (htt _ lk_Model_195) (fun _ h9 => h9) yg_34 d_Model_putBack_67 ?_
  refine lv_iconst (v := 0) hx hb d_Model_putBack_70 (by decide) ?_
  refine lv_bipush (v := 64) hx hb d_Model_putBack_71 (by decide) ?_
  obtain ⟨h_9a, h_9b, h_9c, h_9d, h_9e, hm⟩ := cy_some hm
  refine va_copyi hx hb (by rw [hml]; exact hl.1.symm) hown (htt _ lk_Model_334) (htt _ na_arraycopy) (htt _ st_arraycopy) (htt _ ini_System) hK hP hD hS 41 27 0 0 (ty := .int) ya_52 ya_34 rfl rfl rfl h_9a h_9b h_9c h_9d h_9e (fun _ _ => rfl) (Nat.le_of_ble_eq_true rfl) (Nat.le_of_ble_eq_true rfl) d_Model_putBack_73 (fun H locs hP hD hS => ?_)
  obtain ⟨a_10, ea_10⟩ : ∃ y9 : Nat → Nat → Int32, y9 = updA a_6 34 (va_cpy (a_6 52) (a_6 34) (0 : Int32).toNatClampNeg (0 : Int32).toNatClampNeg (64 : Int32).toNatClampNeg) := ⟨_, rfl⟩
  replace hm := ob1_at ea_10 hm
  obtain ⟨hP, hD⟩ := yv_34 ea_10 hP hD
  refine lv_aload_n hx hb d_Model_putBack_76 rfl (lv_at hl 0 rfl) ?_
  refine va_get (D := (dC, dI)) (ci := 12) (v := .ref ((v 56))) (C := R_Model) (T := F_Model) (N := 127) hx hb htt iw_Model hown hK hP 0 yo_12 rfl 56 (Nat.le_of_ble_eq_true rfl) (htt _ lk_Model_249) (fun _ h9 => h9) yg_56 d_Model_putBack_77 ?_
  refine lv_iconst (v := 0) hx hb d_Model_putBack_80 (by decide) ?_
  refine lv_aload_n hx hb d_Model_putBack_81 rfl (lv_at hl 0 rfl) ?_
  refine va_get (D := (dC, dI)) (ci := 12) (v := .ref ((v 35))) (C := R_Model) (T := F_Model) (N := 127) hx hb htt iw_Model hown hK hP 0 yo_12 rfl 35 (Nat.le_of_ble_eq_true rfl) (htt _ lk_Model_198) (fun _ h9 => h9) yg_35 d_Model_putBack_82 ?_
  refine lv_iconst (v := 0) hx hb d_Model_putBack_85 (by decide) ?_
  refine lv_bipush (v := 64) hx hb d_Model_putBack_86 (by decide) ?_
  obtain ⟨h_11a, h_11b, h_11c, h_11d, h_11e, hm⟩ := cy_some hm
  refine va_copyl hx hb (by rw [hml]; exact hl.1.symm) hown (htt _ lk_Model_334) (htt _ na_arraycopy) (htt _ st_arraycopy) (htt _ ini_System) hK hP hD hS 45 28 1 1 (ty := .long) ya_56 ya_35 rfl rfl rfl h_11a h_11b h_11c h_11d h_11e (fun _ _ => rfl) (Nat.le_of_ble_eq_true rfl) (Nat.le_of_ble_eq_true rfl) d_Model_putBack_88 (fun H locs hP hD hS => ?_)
  obtain ⟨b_12, eb_12⟩ : ∃ y9 : Nat → Nat → Int64, y9 = updB b_8 35 (va_cpy (b_8 56) (b_8 35) (0 : Int32).toNatClampNeg (0 : Int32).toNatClampNeg (64 : Int32).toNatClampNeg) := ⟨_, rfl⟩
  replace hm := ob1_at eb_12 hm
  obtain ⟨hP, hD⟩ := yv_35 eb_12 hP hD
  refine lv_iconst (v := 0) hx hb d_Model_putBack_91 (by decide) ?_
  refine lv_istore_n (lv' := [(1, .int 0), (0, .ref h)]) hx hb d_Model_putBack_92 rfl hl (by decide) rfl (fun ls hl => ?_)
  exact lb_Model_putBack_93 l dC dI cI cJ cB adK adV adA h v n hx hb hml hown hts hK hE hA hr hlocks n _ _ _ _ _ hm _ _ _ hP hD hS (lv_sub hl [1, 0] rfl)

def m_Model_stop (n : Nat) (i : Nat → Int32) (j : Nat → Int64) (a : Nat → Nat → Int32) (b : Nat → Nat → Int64)  : Option ((Nat → Int32) × (Nat → Int64) × (Nat → Nat → Int32) × (Nat → Nat → Int64) × Int32) := ob1 (upd i 0 0 : Nat → Int32) (fun i_1 => if ((i_1 92)) = ((1 : Int32)) then ob1 (upd i_1 92 4 : Nat → Int32) (fun i_3 => om (m_Model_ended n i_3 j a b) (fun i_5 j_6 a_7 b_8 r_9 => some (i_5, j_6, a_7, b_8, 1))) else some (i_1, j, a, b, 0))
set_option maxHeartbeats 4000000 in
set_option maxRecDepth 100000 in
theorem x_Model_stop (l : Launch) (dC : Nat → ClassId) (dI : Nat → Nat → Nat) (cI cJ cB : ClassId) (adK adV adA : Nat → Nat) (h : Nat) (v : Nat → Nat) (sz : Nat) (n : Nat) {i : Nat → Int32} {j : Nat → Int64} {a : Nat → Nat → Int32} {b : Nat → Nat → Int64}  {i2 : Nat → Int32} {j2 : Nat → Int64} {a2 : Nat → Nat → Int32} {b2 : Nat → Nat → Int64} {r2 : Int32} (hm : m_Model_stop n i j a b = some (i2, j2, a2, b2, r2)) : Met l y_Model_stop w_Model_stop ({ frames := 1, cells := 0, slots := 0, locals := 20 } : Room) (va_Pc [.ref h] (yE dC dI cI cJ cB adK adV adA h v i j a b sz)) (va_Qi (xR r2) (yB dC dI cI cJ cB h v i2 j2 a2 b2 (va_A (MW cI cJ cB h v i j a b) sz)) (va_A (MW cI cJ cB h v i j a b) sz)) 0 0 ((va_A (MW cI cJ cB h v i j a b) sz)) := by
  refine Met.ofW (cc := b_Model_stop) (maxL := 1) (ret := (some .boolean)) (by decide) rfl ?_
  intro p e s m args below meth c s₁ B hml hv
  obtain ⟨rfl, hsz, hP, hK, hE, hD0⟩ := hv
  have hx := B.exec
  have hb := B.bytes
  have hr := B.returns
  have hts := atoms_spec (ws := w_Model_stop) B.pre
  have htt : ∀ w ∈ tw_T, w.before _ s = true := fun w h => hts w (List.mem_cons_of_mem _ h)
  have hown : s.vm.findClass R_Model = some m.cls := findClass_of_methodNamed B.named
  have hlocks := B.notSynchronized
  subst hsz
  have hD := hD0.self (sz := s.heap.size)
  generalize hAe : (va_A (MW cI cJ cB h v i j a b) s.heap.size) = A at hD hE ⊢
  have hA : ∀ q : Nat, s.heap.size ≤ q → A q := fun q h => by rw [← hAe]; exact Or.inr h
  have hS : va_S A s.heap s.heap [] := va_S.rf
  have hl := lv_entry ([.ref h]) (n := 1) (Nat.le_of_ble_eq_true rfl)
  rw [lg_entry_eq]
  generalize (lg_sl ([.ref h]) ++ List.replicate (1 - (lg_sl ([.ref h])).length) Slot.unset).toArray = ls at hl ⊢
  have hl : lv_has ls 1 [(0, .ref h)] := hl
  rw [m_Model_stop] at hm
  refine lv_aload_n hx hb d_Model_stop_0 rfl (lv_at hl 0 rfl) ?_
  refine lv_iconst (v := 0) hx hb d_Model_stop_1 (by decide) ?_
  refine va_put (D := (dC, dI)) (ci := 12) (v := .int 0) (ty := .int) (C := R_Model) (T := F_Model) (N := 127) hx hb htt iw_Model t_Model t_Model_ok n_Model hown hK hP hD hS 0 yo_12 rfl 0 (Nat.le_of_ble_eq_true rfl) (htt _ lk_Model_1) (fun _ h9 => h9) rfl (by decide +kernel) rfl rfl yl_0 d_Model_stop_2 (fun H locs hP hD hS => ?_)
  obtain ⟨i_1, ei_1⟩ : ∃ y9 : Nat → Int32, y9 = upd i 0 0 := ⟨_, rfl⟩
  replace hm := ob1_at ei_1 hm
  obtain ⟨hP, hD⟩ := yw_0 ei_1 hP hD
  refine lv_aload_n hx hb d_Model_stop_5 rfl (lv_at hl 0 rfl) ?_
  refine va_get (D := (dC, dI)) (ci := 12) (v := .int (i_1 92)) (C := R_Model) (T := F_Model) (N := 127) hx hb htt iw_Model hown hK hP 0 yo_12 rfl 92 (Nat.le_of_ble_eq_true rfl) (htt _ lk_Model_494) (fun _ h9 => h9) yg_92 d_Model_stop_6 ?_
  refine lv_iconst (v := 1) hx hb d_Model_stop_9 (by decide) ?_
  refine lv_icmp_eq (tgt := 15) hx hb d_Model_stop_10 (by decide) (fun c_2 => ?_) (fun c_2 => ?_)
  · replace hm := if_t c_2 hm
    refine lv_aload_n hx hb d_Model_stop_15 rfl (lv_at hl 0 rfl) ?_
    refine lv_iconst (v := 4) hx hb d_Model_stop_16 (by decide) ?_
    refine va_put (D := (dC, dI)) (ci := 12) (v := .int 4) (ty := .int) (C := R_Model) (T := F_Model) (N := 127) hx hb htt iw_Model t_Model t_Model_ok n_Model hown hK hP hD hS 0 yo_12 rfl 92 (Nat.le_of_ble_eq_true rfl) (htt _ lk_Model_494) (fun _ h9 => h9) rfl (by decide +kernel) rfl rfl yl_92 d_Model_stop_17 (fun H locs hP hD hS => ?_)
    obtain ⟨i_3, ei_3⟩ : ∃ y9 : Nat → Int32, y9 = upd i_1 92 4 := ⟨_, rfl⟩
    replace hm := ob1_at ei_3 hm
    obtain ⟨hP, hD⟩ := yw_92 ei_3 hP hD
    refine lv_aload_n hx hb d_Model_stop_20 rfl (lv_at hl 0 rfl) ?_
    obtain ⟨i_5, j_6, a_7, b_8, r_9, h_4, hm⟩ := om_some hm
    have hFc := x_free hD hS hA
    refine va_callv (va_runV (As := []) (rest := []) ⟨hx, hb, hml, hown, hts⟩ (x_Model_ended l dC dI cI cJ cB adK adV adA h v H.size n h_4) (cwV 0 hts (tw_GV tw_cons cw_Model_ended lk_Model_529 in_Model_ended sel_Model_ended ini_Model) rfl rfl rfl ⟨rfl, hd_Model_ended⟩ ⟨Nat.le_of_ble_eq_true rfl, Nat.le_of_ble_eq_true rfl⟩) (ypV hK hP hD hS hE hFc yo_12 rfl) rfl rfl hl.1 rfl (lv_room (Nat.le_of_ble_eq_true rfl)) d_Model_stop_21 ⟨Nat.le_of_ble_eq_true rfl, Nat.le_of_ble_eq_true rfl⟩) hS (fun q _ h => hFc q h) hFc (fun u9 t9 H locs ht hvm e9 hB hz1 hk1 hS => ?_)
    obtain ⟨hP, hD⟩ := y_aft hB ht hFc
    clear hFc hk1 hz1 hvm hB ht
    refine lv_iconst (v := 1) hx hb d_Model_stop_24 (by decide) ?_
    obtain ⟨e1i, e1j, e1a, e1b, e3⟩ := re4m hm
    obtain ⟨hP, hD⟩ := y_eq e1i e1j e1a e1b hP hD
    exact W.zret hx hb hr (by decide) (fun t9 ht hW => ⟨⟨_, (), rfl, e3.symm, by rw [ht]; exact hP, hD⟩, hS.F ht⟩) hS.2.2 d_Model_stop_25
  · replace hm := if_f c_2 hm
    refine lv_iconst (v := 0) hx hb d_Model_stop_13 (by decide) ?_
    obtain ⟨e1i, e1j, e1a, e1b, e3⟩ := re4m hm
    obtain ⟨hP, hD⟩ := y_eq e1i e1j e1a e1b hP hD
    exact W.zret hx hb hr (by decide) (fun t9 ht hW => ⟨⟨_, (), rfl, e3.symm, by rw [ht]; exact hP, hD⟩, hS.F ht⟩) hS.2.2 d_Model_stop_14

def m_Model_place_b32 (n : Nat) (i : Nat → Int32) (j : Nat → Int64) (a : Nat → Nat → Int32) (b : Nat → Nat → Int64) (v1 : Int32) (v2 : Int32) (v3 : Int32) (s0 : Int32) : Option ((Nat → Int32) × (Nat → Int64) × (Nat → Nat → Int32) × (Nat → Nat → Int64) × Int32) := ob1 (upd i 0 s0 : Nat → Int32) (fun i_1 => if ((i_1 0)) = ((1 : Int32)) then some (i_1, j, a, b, 0) else ob0 (m_Model_turtleRow n i_1 j a b ((2 * v2) + v3)) (fun r_4 => cd r_4 (ck v1 8 (some (i_1, j, a, b, a r_4 v1.toNatClampNeg)))))
set_option maxHeartbeats 4000000 in
set_option maxRecDepth 100000 in
theorem lb_Model_place_32 (l : Launch) (dC : Nat → ClassId) (dI : Nat → Nat → Nat) (cI cJ cB : ClassId) (adK adV adA : Nat → Nat) (h : Nat) (v : Nat → Nat) (n : Nat) {p : Program} {e : Env} {s : State} {m : MethodId} {args : Array Value} {below : List Frame} {meth : Method} {c : Code} {A : Nat → Prop} (hx : p.tables.exec = Jvm.exec) (hb : c.code = b_Model_place) (hml : c.maxLocals = 4) (hown : s.vm.findClass R_Model = some m.cls) (hts : ∀ w ∈ w_Model_place, w.before args s = true) (hK : va_K (dC, dI) classes [(cI, .int), (cJ, .long), (cB, .byte)] s) (hE : tw_E adK adV adA A s s.heap) (hA : ∀ q : Nat, s.heap.size ≤ q → A q) (hr : meth.sig.returnType = (some .int)) (hlocks : meth.locks = false) {i2 : Nat → Int32} {j2 : Nat → Int64} {a2 : Nat → Nat → Int32} {b2 : Nat → Nat → Int64} {r2 : Int32} (i : Nat → Int32) (j : Nat → Int64) (a : Nat → Nat → Int32) (b : Nat → Nat → Int64) (v1 : Int32) (v2 : Int32) (v3 : Int32) (s0 : Int32) (hm : m_Model_place_b32 n i j a b v1 v2 v3 s0 = some (i2, j2, a2, b2, r2)) : ∀ (H : Heap) (locs : List Loc) (ls : Array Slot), va_P (dC, dI) classes (MW cI cJ cB h v i j a b) H → va_D A (MW cI cJ cB h v i j a b) → va_S A s.heap H locs → lv_has ls 4 [(0, .ref h), (1, .int v1), (2, .int v2), (3, .int v3)] → W p l e ({ frames := 1, cells := 0, slots := 0, locals := 21 } : Room) s m args below meth c H locs 0 0 (MQ below (va_Qi (xR r2) (yB dC dI cI cJ cB h v i2 j2 a2 b2 A) A) args s 0 0 A) (F0 m 32 ls [.int s0, .ref h]) := by
  have htt : ∀ w ∈ tw_T, w.before _ s = true := fun w h => hts w (List.mem_cons_of_mem _ h)
  intro H locs ls hP hD hS hl
  rw [m_Model_place_b32] at hm
  refine va_put (D := (dC, dI)) (ci := 12) (v := .int s0) (ty := .int) (C := R_Model) (T := F_Model) (N := 127) hx hb htt iw_Model t_Model t_Model_ok n_Model hown hK hP hD hS 0 yo_12 rfl 0 (Nat.le_of_ble_eq_true rfl) (htt _ lk_Model_1) (fun _ h9 => h9) rfl (by decide +kernel) rfl rfl yl_0 d_Model_place_32 (fun H locs hP hD hS => ?_)
  obtain ⟨i_1, ei_1⟩ : ∃ y9 : Nat → Int32, y9 = upd i 0 s0 := ⟨_, rfl⟩
  replace hm := ob1_at ei_1 hm
  obtain ⟨hP, hD⟩ := yw_0 ei_1 hP hD
  refine lv_aload_n hx hb d_Model_place_35 rfl (lv_at hl 0 rfl) ?_
  refine va_get (D := (dC, dI)) (ci := 12) (v := .int (i_1 0)) (C := R_Model) (T := F_Model) (N := 127) hx hb htt iw_Model hown hK hP 0 yo_12 rfl 0 (Nat.le_of_ble_eq_true rfl) (htt _ lk_Model_1) (fun _ h9 => h9) yg_0 d_Model_place_36 ?_
  refine lv_iconst (v := 1) hx hb d_Model_place_39 (by decide) ?_
  refine lv_icmp_ne (tgt := 47) hx hb d_Model_place_40 (by decide) (fun c_2 => ?_) (fun c_2 => ?_)
  · replace hm := if_f c_2 hm
    refine lv_aload_n hx hb d_Model_place_47 rfl (lv_at hl 0 rfl) ?_
    refine lv_iconst (v := 2) hx hb d_Model_place_48 (by decide) ?_
    refine lv_iload_n hx hb d_Model_place_49 rfl (lv_at hl 2 rfl) ?_
    refine lv_imul hx hb d_Model_place_50 ?_
    refine lv_iload_n hx hb d_Model_place_51 rfl (lv_at hl 3 rfl) ?_
    refine lv_iadd hx hb d_Model_place_52 ?_
    obtain ⟨r_4, h_3, hm⟩ := ob0_some hm
    have hFc := x_free0 hS hA
    refine va_callr (va_runV (As := [.int ((2 * v2) + v3)]) (rest := []) ⟨hx, hb, hml, hown, hts⟩ (x_Model_turtleRow l dC dI cI cJ cB adK adV adA h v H.size n h_3) (cwV 1 hts (tw_GV tw_cons cw_Model_turtleRow lk_Model_340 in_Model_turtleRow sel_Model_turtleRow ini_Model) rfl rfl rfl ⟨rfl, hd_Model_turtleRow⟩ ⟨Nat.le_of_ble_eq_true rfl, Nat.le_of_ble_eq_true rfl⟩) (ypVr hK hP hS hE hFc yo_12 rfl) rfl rfl hl.1 rfl (lv_room (Nat.le_of_ble_eq_true rfl)) d_Model_place_53 ⟨Nat.le_of_ble_eq_true rfl, Nat.le_of_ble_eq_true rfl⟩) hS (fun q _ h => hFc q h) hFc (fun u9 q9 t9 H locs ht hvm e9 hB hz1 hk1 hS => ?_)
    have hB : q9 = v r_4 := hB
    subst hB
    obtain ⟨hr_4, hm⟩ := cd_some hm
    replace hP := x_keep hP hk1
    clear hFc hk1 hz1 hvm ht
    refine lv_iload_n hx hb d_Model_place_56 rfl (lv_at hl 1 rfl) ?_
    obtain ⟨h_5, hm⟩ := ck_some hm
    refine va_iald hx hb hK hP (29 + (r_4 - 37)) 0 (ya_t r_4 hr_4) rfl h_5 d_Model_place_57 ?_
    obtain ⟨e1i, e1j, e1a, e1b, e3⟩ := re4m hm
    obtain ⟨hP, hD⟩ := y_eq e1i e1j e1a e1b hP hD
    exact W.iret hx hb hr (fun t9 ht hW => ⟨⟨_, (), rfl, e3.symm, by rw [ht]; exact hP, hD⟩, hS.F ht⟩) hS.2.2 d_Model_place_58
  · replace hm := if_t c_2 hm
    refine lv_iconst (v := 0) hx hb d_Model_place_43 (by decide) ?_
    refine lv_goto (tgt := 58) hx hb d_Model_place_44 (by decide) ?_
    obtain ⟨e1i, e1j, e1a, e1b, e3⟩ := re4m hm
    obtain ⟨hP, hD⟩ := y_eq e1i e1j e1a e1b hP hD
    exact W.iret hx hb hr (fun t9 ht hW => ⟨⟨_, (), rfl, e3.symm, by rw [ht]; exact hP, hD⟩, hS.F ht⟩) hS.2.2 d_Model_place_58
def m_Model_place_b31 (n : Nat) (i : Nat → Int32) (j : Nat → Int64) (a : Nat → Nat → Int32) (b : Nat → Nat → Int64) (v1 : Int32) (v2 : Int32) (v3 : Int32) : Option ((Nat → Int32) × (Nat → Int64) × (Nat → Nat → Int32) × (Nat → Nat → Int64) × Int32) := m_Model_place_b32 n i j a b v1 v2 v3 (1 : Int32)
set_option maxHeartbeats 4000000 in
set_option maxRecDepth 100000 in
theorem lb_Model_place_31 (l : Launch) (dC : Nat → ClassId) (dI : Nat → Nat → Nat) (cI cJ cB : ClassId) (adK adV adA : Nat → Nat) (h : Nat) (v : Nat → Nat) (n : Nat) {p : Program} {e : Env} {s : State} {m : MethodId} {args : Array Value} {below : List Frame} {meth : Method} {c : Code} {A : Nat → Prop} (hx : p.tables.exec = Jvm.exec) (hb : c.code = b_Model_place) (hml : c.maxLocals = 4) (hown : s.vm.findClass R_Model = some m.cls) (hts : ∀ w ∈ w_Model_place, w.before args s = true) (hK : va_K (dC, dI) classes [(cI, .int), (cJ, .long), (cB, .byte)] s) (hE : tw_E adK adV adA A s s.heap) (hA : ∀ q : Nat, s.heap.size ≤ q → A q) (hr : meth.sig.returnType = (some .int)) (hlocks : meth.locks = false) {i2 : Nat → Int32} {j2 : Nat → Int64} {a2 : Nat → Nat → Int32} {b2 : Nat → Nat → Int64} {r2 : Int32} (i : Nat → Int32) (j : Nat → Int64) (a : Nat → Nat → Int32) (b : Nat → Nat → Int64) (v1 : Int32) (v2 : Int32) (v3 : Int32) (hm : m_Model_place_b31 n i j a b v1 v2 v3 = some (i2, j2, a2, b2, r2)) : ∀ (H : Heap) (locs : List Loc) (ls : Array Slot), va_P (dC, dI) classes (MW cI cJ cB h v i j a b) H → va_D A (MW cI cJ cB h v i j a b) → va_S A s.heap H locs → lv_has ls 4 [(0, .ref h), (1, .int v1), (2, .int v2), (3, .int v3)] → W p l e ({ frames := 1, cells := 0, slots := 0, locals := 21 } : Room) s m args below meth c H locs 0 0 (MQ below (va_Qi (xR r2) (yB dC dI cI cJ cB h v i2 j2 a2 b2 A) A) args s 0 0 A) (F0 m 31 ls [.ref h]) := by
  have htt : ∀ w ∈ tw_T, w.before _ s = true := fun w h => hts w (List.mem_cons_of_mem _ h)
  intro H locs ls hP hD hS hl
  rw [m_Model_place_b31] at hm
  refine lv_iconst (v := 1) hx hb d_Model_place_31 (by decide) ?_
  exact lb_Model_place_32 l dC dI cI cJ cB adK adV adA h v n hx hb hml hown hts hK hE hA hr hlocks _ _ _ _ _ _ _ _ hm _ _ _ hP hD hS (lv_sub hl [0, 1, 2, 3] rfl)
def m_Model_place_b27 (n : Nat) (i : Nat → Int32) (j : Nat → Int64) (a : Nat → Nat → Int32) (b : Nat → Nat → Int64) (v1 : Int32) (v2 : Int32) (v3 : Int32) : Option ((Nat → Int32) × (Nat → Int64) × (Nat → Nat → Int32) × (Nat → Nat → Int64) × Int32) := m_Model_place_b32 n i j a b v1 v2 v3 (0 : Int32)
set_option maxHeartbeats 4000000 in
set_option maxRecDepth 100000 in
theorem lb_Model_place_27 (l : Launch) (dC : Nat → ClassId) (dI : Nat → Nat → Nat) (cI cJ cB : ClassId) (adK adV adA : Nat → Nat) (h : Nat) (v : Nat → Nat) (n : Nat) {p : Program} {e : Env} {s : State} {m : MethodId} {args : Array Value} {below : List Frame} {meth : Method} {c : Code} {A : Nat → Prop} (hx : p.tables.exec = Jvm.exec) (hb : c.code = b_Model_place) (hml : c.maxLocals = 4) (hown : s.vm.findClass R_Model = some m.cls) (hts : ∀ w ∈ w_Model_place, w.before args s = true) (hK : va_K (dC, dI) classes [(cI, .int), (cJ, .long), (cB, .byte)] s) (hE : tw_E adK adV adA A s s.heap) (hA : ∀ q : Nat, s.heap.size ≤ q → A q) (hr : meth.sig.returnType = (some .int)) (hlocks : meth.locks = false) {i2 : Nat → Int32} {j2 : Nat → Int64} {a2 : Nat → Nat → Int32} {b2 : Nat → Nat → Int64} {r2 : Int32} (i : Nat → Int32) (j : Nat → Int64) (a : Nat → Nat → Int32) (b : Nat → Nat → Int64) (v1 : Int32) (v2 : Int32) (v3 : Int32) (hm : m_Model_place_b27 n i j a b v1 v2 v3 = some (i2, j2, a2, b2, r2)) : ∀ (H : Heap) (locs : List Loc) (ls : Array Slot), va_P (dC, dI) classes (MW cI cJ cB h v i j a b) H → va_D A (MW cI cJ cB h v i j a b) → va_S A s.heap H locs → lv_has ls 4 [(0, .ref h), (1, .int v1), (2, .int v2), (3, .int v3)] → W p l e ({ frames := 1, cells := 0, slots := 0, locals := 21 } : Room) s m args below meth c H locs 0 0 (MQ below (va_Qi (xR r2) (yB dC dI cI cJ cB h v i2 j2 a2 b2 A) A) args s 0 0 A) (F0 m 27 ls [.ref h]) := by
  have htt : ∀ w ∈ tw_T, w.before _ s = true := fun w h => hts w (List.mem_cons_of_mem _ h)
  intro H locs ls hP hD hS hl
  rw [m_Model_place_b27] at hm
  refine lv_iconst (v := 0) hx hb d_Model_place_27 (by decide) ?_
  refine lv_goto (tgt := 32) hx hb d_Model_place_28 (by decide) ?_
  exact lb_Model_place_32 l dC dI cI cJ cB adK adV adA h v n hx hb hml hown hts hK hE hA hr hlocks _ _ _ _ _ _ _ _ hm _ _ _ hP hD hS (lv_sub hl [0, 1, 2, 3] rfl)
def m_Model_place_b18 (n : Nat) (i : Nat → Int32) (j : Nat → Int64) (a : Nat → Nat → Int32) (b : Nat → Nat → Int64) (v1 : Int32) (v2 : Int32) (v3 : Int32) : Option ((Nat → Int32) × (Nat → Int64) × (Nat → Nat → Int32) × (Nat → Nat → Int64) × Int32) := if v3 = ((0 : Int32)) then m_Model_place_b27 n i j a b v1 v2 v3 else if v3 = ((1 : Int32)) then m_Model_place_b27 n i j a b v1 v2 v3 else m_Model_place_b31 n i j a b v1 v2 v3
set_option maxHeartbeats 4000000 in
set_option maxRecDepth 100000 in
theorem lb_Model_place_18 (l : Launch) (dC : Nat → ClassId) (dI : Nat → Nat → Nat) (cI cJ cB : ClassId) (adK adV adA : Nat → Nat) (h : Nat) (v : Nat → Nat) (n : Nat) {p : Program} {e : Env} {s : State} {m : MethodId} {args : Array Value} {below : List Frame} {meth : Method} {c : Code} {A : Nat → Prop} (hx : p.tables.exec = Jvm.exec) (hb : c.code = b_Model_place) (hml : c.maxLocals = 4) (hown : s.vm.findClass R_Model = some m.cls) (hts : ∀ w ∈ w_Model_place, w.before args s = true) (hK : va_K (dC, dI) classes [(cI, .int), (cJ, .long), (cB, .byte)] s) (hE : tw_E adK adV adA A s s.heap) (hA : ∀ q : Nat, s.heap.size ≤ q → A q) (hr : meth.sig.returnType = (some .int)) (hlocks : meth.locks = false) {i2 : Nat → Int32} {j2 : Nat → Int64} {a2 : Nat → Nat → Int32} {b2 : Nat → Nat → Int64} {r2 : Int32} (i : Nat → Int32) (j : Nat → Int64) (a : Nat → Nat → Int32) (b : Nat → Nat → Int64) (v1 : Int32) (v2 : Int32) (v3 : Int32) (hm : m_Model_place_b18 n i j a b v1 v2 v3 = some (i2, j2, a2, b2, r2)) : ∀ (H : Heap) (locs : List Loc) (ls : Array Slot), va_P (dC, dI) classes (MW cI cJ cB h v i j a b) H → va_D A (MW cI cJ cB h v i j a b) → va_S A s.heap H locs → lv_has ls 4 [(0, .ref h), (1, .int v1), (2, .int v2), (3, .int v3)] → W p l e ({ frames := 1, cells := 0, slots := 0, locals := 21 } : Room) s m args below meth c H locs 0 0 (MQ below (va_Qi (xR r2) (yB dC dI cI cJ cB h v i2 j2 a2 b2 A) A) args s 0 0 A) (F0 m 18 ls [.ref h]) := by
  have htt : ∀ w ∈ tw_T, w.before _ s = true := fun w h => hts w (List.mem_cons_of_mem _ h)
  intro H locs ls hP hD hS hl
  rw [m_Model_place_b18] at hm
  refine lv_iload_n hx hb d_Model_place_18 rfl (lv_at hl 3 rfl) ?_
  refine lv_if_eq (tgt := 27) hx hb d_Model_place_19 (by decide) (fun c_1 => ?_) (fun c_1 => ?_)
  · replace hm := if_t c_1 hm
    exact lb_Model_place_27 l dC dI cI cJ cB adK adV adA h v n hx hb hml hown hts hK hE hA hr hlocks _ _ _ _ _ _ _ hm _ _ _ hP hD hS (lv_sub hl [0, 1, 2, 3] rfl)
  · replace hm := if_f c_1 hm
    refine lv_iload_n hx hb d_Model_place_22 rfl (lv_at hl 3 rfl) ?_
    refine lv_iconst (v := 1) hx hb d_Model_place_23 (by decide) ?_
    refine lv_icmp_ne (tgt := 31) hx hb d_Model_place_24 (by decide) (fun c_2 => ?_) (fun c_2 => ?_)
    · replace hm := if_f c_2 hm
      exact lb_Model_place_31 l dC dI cI cJ cB adK adV adA h v n hx hb hml hown hts hK hE hA hr hlocks _ _ _ _ _ _ _ hm _ _ _ hP hD hS (lv_sub hl [0, 1, 2, 3] rfl)
    · replace hm := if_t c_2 hm
      exact lb_Model_place_27 l dC dI cI cJ cB adK adV adA h v n hx hb hml hown hts hK hE hA hr hlocks _ _ _ _ _ _ _ hm _ _ _ hP hD hS (lv_sub hl [0, 1, 2, 3] rfl)
def m_Model_place (n : Nat) (i : Nat → Int32) (j : Nat → Int64) (a : Nat → Nat → Int32) (b : Nat → Nat → Int64) (v1 : Int32) (v2 : Int32) (v3 : Int32) : Option ((Nat → Int32) × (Nat → Int64) × (Nat → Nat → Int32) × (Nat → Nat → Int64) × Int32) := ob0 (m_Model_isTurtle n i j a b v1) (fun r_2 => if r_2 = ((0 : Int32)) then m_Model_place_b31 n i j a b v1 v2 v3 else if v2 = ((0 : Int32)) then m_Model_place_b18 n i j a b v1 v2 v3 else if v2 = ((1 : Int32)) then m_Model_place_b18 n i j a b v1 v2 v3 else m_Model_place_b31 n i j a b v1 v2 v3)
set_option maxHeartbeats 4000000 in
set_option maxRecDepth 100000 in
theorem x_Model_place (l : Launch) (dC : Nat → ClassId) (dI : Nat → Nat → Nat) (cI cJ cB : ClassId) (adK adV adA : Nat → Nat) (h : Nat) (v : Nat → Nat) (sz : Nat) (n : Nat) {i : Nat → Int32} {j : Nat → Int64} {a : Nat → Nat → Int32} {b : Nat → Nat → Int64} {v1 : Int32} {v2 : Int32} {v3 : Int32} {i2 : Nat → Int32} {j2 : Nat → Int64} {a2 : Nat → Nat → Int32} {b2 : Nat → Nat → Int64} {r2 : Int32} (hm : m_Model_place n i j a b v1 v2 v3 = some (i2, j2, a2, b2, r2)) : Met l y_Model_place w_Model_place ({ frames := 1, cells := 0, slots := 0, locals := 21 } : Room) (va_Pc [.ref h, .int v1, .int v2, .int v3] (yE dC dI cI cJ cB adK adV adA h v i j a b sz)) (va_Qi (xR r2) (yB dC dI cI cJ cB h v i2 j2 a2 b2 (va_A (MW cI cJ cB h v i j a b) sz)) (va_A (MW cI cJ cB h v i j a b) sz)) 0 0 ((va_A (MW cI cJ cB h v i j a b) sz)) := by
  refine Met.ofW (cc := b_Model_place) (maxL := 4) (ret := (some .int)) (by decide) rfl ?_
  intro p e s m args below meth c s₁ B hml hv
  obtain ⟨rfl, hsz, hP, hK, hE, hD0⟩ := hv
  have hx := B.exec
  have hb := B.bytes
  have hr := B.returns
  have hts := atoms_spec (ws := w_Model_place) B.pre
  have htt : ∀ w ∈ tw_T, w.before _ s = true := fun w h => hts w (List.mem_cons_of_mem _ h)
  have hown : s.vm.findClass R_Model = some m.cls := findClass_of_methodNamed B.named
  have hlocks := B.notSynchronized
  subst hsz
  have hD := hD0.self (sz := s.heap.size)
  generalize hAe : (va_A (MW cI cJ cB h v i j a b) s.heap.size) = A at hD hE ⊢
  have hA : ∀ q : Nat, s.heap.size ≤ q → A q := fun q h => by rw [← hAe]; exact Or.inr h
  have hS : va_S A s.heap s.heap [] := va_S.rf
  have hl := lv_entry ([.ref h, .int v1, .int v2, .int v3]) (n := 4) (Nat.le_of_ble_eq_true rfl)
  rw [lg_entry_eq]
  generalize (lg_sl ([.ref h, .int v1, .int v2, .int v3]) ++ List.replicate (4 - (lg_sl ([.ref h, .int v1, .int v2, .int v3])).length) Slot.unset).toArray = ls at hl ⊢
  have hl : lv_has ls 4 [(0, .ref h), (1, .int v1), (2, .int v2), (3, .int v3)] := hl
  rw [m_Model_place] at hm
  refine lv_aload_n hx hb d_Model_place_0 rfl (lv_at hl 0 rfl) ?_
  refine lv_aload_n hx hb d_Model_place_1 rfl (lv_at hl 0 rfl) ?_
  refine lv_iload_n hx hb d_Model_place_2 rfl (lv_at hl 1 rfl) ?_
  obtain ⟨r_2, h_1, hm⟩ := ob0_some hm
  have hFc := x_free0 hS hA
  refine va_calli (va_runV (As := [.int v1]) (rest := [.ref h]) ⟨hx, hb, hml, hown, hts⟩ (x_Model_isTurtle l dC dI cI cJ cB adK adV adA h v s.heap.size n h_1) (cwV 1 hts (tw_GV tw_cons cw_Model_isTurtle lk_Model_849 in_Model_isTurtle sel_Model_isTurtle ini_Model) rfl rfl rfl ⟨rfl, hd_Model_isTurtle⟩ ⟨Nat.le_of_ble_eq_true rfl, Nat.le_of_ble_eq_true rfl⟩) (ypVr hK hP hS hE hFc yo_12 rfl) rfl rfl hl.1 rfl (lv_room (Nat.le_of_ble_eq_true rfl)) d_Model_place_3 ⟨Nat.le_of_ble_eq_true rfl, Nat.le_of_ble_eq_true rfl⟩) hS (fun q _ h => hFc q h) hFc (fun r9 u9 t9 H locs ht hvm e9 hB hz1 hk1 hS => ?_)
  have e9 : r_2 = r9 := e9
  subst e9
  replace hP := x_keep hP hk1
  clear hFc hk1 hz1 hvm hB ht
  refine lv_if_eq (tgt := 31) hx hb d_Model_place_6 (by decide) (fun c_3 => ?_) (fun c_3 => ?_)
  · replace hm := if_t c_3 hm
    exact lb_Model_place_31 l dC dI cI cJ cB adK adV adA h v n hx hb hml hown hts hK hE hA hr hlocks _ _ _ _ _ _ _ hm _ _ _ hP hD hS (lv_sub hl [0, 1, 2, 3] rfl)
  · replace hm := if_f c_3 hm
    refine lv_iload_n hx hb d_Model_place_9 rfl (lv_at hl 2 rfl) ?_
    refine lv_if_eq (tgt := 18) hx hb d_Model_place_10 (by decide) (fun c_4 => ?_) (fun c_4 => ?_)
    · replace hm := if_t c_4 hm
      exact lb_Model_place_18 l dC dI cI cJ cB adK adV adA h v n hx hb hml hown hts hK hE hA hr hlocks _ _ _ _ _ _ _ hm _ _ _ hP hD hS (lv_sub hl [0, 1, 2, 3] rfl)
    · replace hm := if_f c_4 hm
      refine lv_iload_n hx hb d_Model_place_13 rfl (lv_at hl 2 rfl) ?_
      refine lv_iconst (v := 1) hx hb d_Model_place_14 (by decide) ?_
      refine lv_icmp_ne (tgt := 31) hx hb d_Model_place_15 (by decide) (fun c_5 => ?_) (fun c_5 => ?_)
      · replace hm := if_f c_5 hm
        exact lb_Model_place_31 l dC dI cI cJ cB adK adV adA h v n hx hb hml hown hts hK hE hA hr hlocks _ _ _ _ _ _ _ hm _ _ _ hP hD hS (lv_sub hl [0, 1, 2, 3] rfl)
      · replace hm := if_t c_5 hm
        exact lb_Model_place_18 l dC dI cI cJ cB adK adV adA h v n hx hb hml hown hts hK hE hA hr hlocks _ _ _ _ _ _ _ hm _ _ _ hP hD hS (lv_sub hl [0, 1, 2, 3] rfl)

def m_Model_side_b23 (n : Nat) (i : Nat → Int32) (j : Nat → Int64) (a : Nat → Nat → Int32) (b : Nat → Nat → Int64) (v1 : Int32) (v2 : Int32) (v3 : Int32) (s0 : Int32) : Option ((Nat → Int32) × (Nat → Int64) × (Nat → Nat → Int32) × (Nat → Nat → Int64) × Int32) := ob1 (upd i 0 s0 : Nat → Int32) (fun i_1 => if ((i_1 0)) = ((1 : Int32)) then some (i_1, j, a, b, 0) else ob0 (m_Model_turtleRow n i_1 j a b (2 * v2)) (fun r_4 => cd r_4 (ck v1 8 (ob0 (m_Model_turtleRow n i_1 j a b ((2 * v2) + 1)) (fun r_7 => cd r_7 (ck v1 8 (ob0 (m_Model_sign n (((a r_4 v1.toNatClampNeg).toInt64) - (2 * v3.toInt64)) ((a r_7 v1.toNatClampNeg).toInt64)) (fun r_10 => some (i_1, j, a, b, r_10)))))))))
set_option maxHeartbeats 4000000 in
set_option maxRecDepth 100000 in
theorem lb_Model_side_23 (l : Launch) (dC : Nat → ClassId) (dI : Nat → Nat → Nat) (cI cJ cB : ClassId) (adK adV adA : Nat → Nat) (h : Nat) (v : Nat → Nat) (n : Nat) {p : Program} {e : Env} {s : State} {m : MethodId} {args : Array Value} {below : List Frame} {meth : Method} {c : Code} {A : Nat → Prop} (hx : p.tables.exec = Jvm.exec) (hb : c.code = b_Model_side) (hml : c.maxLocals = 4) (hown : s.vm.findClass R_Model = some m.cls) (hts : ∀ w ∈ w_Model_side, w.before args s = true) (hK : va_K (dC, dI) classes [(cI, .int), (cJ, .long), (cB, .byte)] s) (hE : tw_E adK adV adA A s s.heap) (hA : ∀ q : Nat, s.heap.size ≤ q → A q) (hr : meth.sig.returnType = (some .int)) (hlocks : meth.locks = false) {i2 : Nat → Int32} {j2 : Nat → Int64} {a2 : Nat → Nat → Int32} {b2 : Nat → Nat → Int64} {r2 : Int32} (i : Nat → Int32) (j : Nat → Int64) (a : Nat → Nat → Int32) (b : Nat → Nat → Int64) (v1 : Int32) (v2 : Int32) (v3 : Int32) (s0 : Int32) (hm : m_Model_side_b23 n i j a b v1 v2 v3 s0 = some (i2, j2, a2, b2, r2)) : ∀ (H : Heap) (locs : List Loc) (ls : Array Slot), va_P (dC, dI) classes (MW cI cJ cB h v i j a b) H → va_D A (MW cI cJ cB h v i j a b) → va_S A s.heap H locs → lv_has ls 4 [(0, .ref h), (1, .int v1), (2, .int v2), (3, .int v3)] → W p l e ({ frames := 2, cells := 0, slots := 0, locals := 50 } : Room) s m args below meth c H locs 0 0 (MQ below (va_Qi (xR r2) (yB dC dI cI cJ cB h v i2 j2 a2 b2 A) A) args s 0 0 A) (F0 m 23 ls [.int s0, .ref h]) := by
  have htt : ∀ w ∈ tw_T, w.before _ s = true := fun w h => hts w (List.mem_cons_of_mem _ h)
  intro H locs ls hP hD hS hl
  rw [m_Model_side_b23] at hm
  refine va_put (D := (dC, dI)) (ci := 12) (v := .int s0) (ty := .int) (C := R_Model) (T := F_Model) (N := 127) hx hb htt iw_Model t_Model t_Model_ok n_Model hown hK hP hD hS 0 yo_12 rfl 0 (Nat.le_of_ble_eq_true rfl) (htt _ lk_Model_1) (fun _ h9 => h9) rfl (by decide +kernel) rfl rfl yl_0 d_Model_side_23 (fun H locs hP hD hS => ?_)
  obtain ⟨i_1, ei_1⟩ : ∃ y9 : Nat → Int32, y9 = upd i 0 s0 := ⟨_, rfl⟩
  replace hm := ob1_at ei_1 hm
  obtain ⟨hP, hD⟩ := yw_0 ei_1 hP hD
  refine lv_aload_n hx hb d_Model_side_26 rfl (lv_at hl 0 rfl) ?_
  refine va_get (D := (dC, dI)) (ci := 12) (v := .int (i_1 0)) (C := R_Model) (T := F_Model) (N := 127) hx hb htt iw_Model hown hK hP 0 yo_12 rfl 0 (Nat.le_of_ble_eq_true rfl) (htt _ lk_Model_1) (fun _ h9 => h9) yg_0 d_Model_side_27 ?_
  refine lv_iconst (v := 1) hx hb d_Model_side_30 (by decide) ?_
  refine lv_icmp_ne (tgt := 38) hx hb d_Model_side_31 (by decide) (fun c_2 => ?_) (fun c_2 => ?_)
  · replace hm := if_f c_2 hm
    refine lv_aload_n hx hb d_Model_side_38 rfl (lv_at hl 0 rfl) ?_
    refine lv_iconst (v := 2) hx hb d_Model_side_39 (by decide) ?_
    refine lv_iload_n hx hb d_Model_side_40 rfl (lv_at hl 2 rfl) ?_
    refine lv_imul hx hb d_Model_side_41 ?_
    obtain ⟨r_4, h_3, hm⟩ := ob0_some hm
    have hFc := x_free0 hS hA
    refine va_callr (va_runV (As := [.int (2 * v2)]) (rest := []) ⟨hx, hb, hml, hown, hts⟩ (x_Model_turtleRow l dC dI cI cJ cB adK adV adA h v H.size n h_3) (cwV 1 hts (tw_GV tw_cons cw_Model_turtleRow lk_Model_340 in_Model_turtleRow sel_Model_turtleRow ini_Model) rfl rfl rfl ⟨rfl, hd_Model_turtleRow⟩ ⟨Nat.le_of_ble_eq_true rfl, Nat.le_of_ble_eq_true rfl⟩) (ypVr hK hP hS hE hFc yo_12 rfl) rfl rfl hl.1 rfl (lv_room (Nat.le_of_ble_eq_true rfl)) d_Model_side_42 ⟨Nat.le_of_ble_eq_true rfl, Nat.le_of_ble_eq_true rfl⟩) hS (fun q _ h => hFc q h) hFc (fun u9 q9 t9 H locs ht hvm e9 hB hz1 hk1 hS => ?_)
    have hB : q9 = v r_4 := hB
    subst hB
    obtain ⟨hr_4, hm⟩ := cd_some hm
    replace hP := x_keep hP hk1
    clear hFc hk1 hz1 hvm ht
    refine lv_iload_n hx hb d_Model_side_45 rfl (lv_at hl 1 rfl) ?_
    obtain ⟨h_5, hm⟩ := ck_some hm
    refine va_iald hx hb hK hP (29 + (r_4 - 37)) 0 (ya_t r_4 hr_4) rfl h_5 d_Model_side_46 ?_
    refine lv_i2l hx hb d_Model_side_47 rfl ?_
    refine lv_ldc2 (v := 2) hx hb hown (htt _ lk_Model_9) d_Model_side_48 ?_
    refine lv_iload_n hx hb d_Model_side_51 rfl (lv_at hl 3 rfl) ?_
    refine lv_i2l hx hb d_Model_side_52 rfl ?_
    refine lv_lmul hx hb d_Model_side_53 ?_
    refine lv_lsub hx hb d_Model_side_54 ?_
    refine lv_aload_n hx hb d_Model_side_55 rfl (lv_at hl 0 rfl) ?_
    refine lv_iconst (v := 2) hx hb d_Model_side_56 (by decide) ?_
    refine lv_iload_n hx hb d_Model_side_57 rfl (lv_at hl 2 rfl) ?_
    refine lv_imul hx hb d_Model_side_58 ?_
    refine lv_iconst (v := 1) hx hb d_Model_side_59 (by decide) ?_
    refine lv_iadd hx hb d_Model_side_60 ?_
    obtain ⟨r_7, h_6, hm⟩ := ob0_some hm
    have hFc := x_free0 hS hA
    refine va_callr (va_runV (As := [.int ((2 * v2) + 1)]) (rest := [.long (((a r_4 v1.toNatClampNeg).toInt64) - (2 * v3.toInt64))]) ⟨hx, hb, hml, hown, hts⟩ (x_Model_turtleRow l dC dI cI cJ cB adK adV adA h v H.size n h_6) (cwV 1 hts (tw_GV tw_cons cw_Model_turtleRow lk_Model_340 in_Model_turtleRow sel_Model_turtleRow ini_Model) rfl rfl rfl ⟨rfl, hd_Model_turtleRow⟩ ⟨Nat.le_of_ble_eq_true rfl, Nat.le_of_ble_eq_true rfl⟩) (ypVr hK hP hS hE hFc yo_12 rfl) rfl rfl hl.1 rfl (lv_room (Nat.le_of_ble_eq_true rfl)) d_Model_side_61 ⟨Nat.le_of_ble_eq_true rfl, Nat.le_of_ble_eq_true rfl⟩) hS (fun q _ h => hFc q h) hFc (fun u9 q9 t9 H locs ht hvm e9 hB hz1 hk1 hS => ?_)
    have hB : q9 = v r_7 := hB
    subst hB
    obtain ⟨hr_7, hm⟩ := cd_some hm
    replace hP := x_keep hP hk1
    clear hFc hk1 hz1 hvm ht
    refine lv_iload_n hx hb d_Model_side_64 rfl (lv_at hl 1 rfl) ?_
    obtain ⟨h_8, hm⟩ := ck_some hm
    refine va_iald hx hb hK hP (29 + (r_7 - 37)) 0 (ya_t r_7 hr_7) rfl h_8 d_Model_side_65 ?_
    refine lv_i2l hx hb d_Model_side_66 rfl ?_
    obtain ⟨r_10, h_9, hm⟩ := ob0_some hm
    have hFc := x_free0 hS hA
    refine va_calli (va_runS (As := [.long (((a r_4 v1.toNatClampNeg).toInt64) - (2 * v3.toInt64)), .long ((a r_7 v1.toNatClampNeg).toInt64)]) (rest := []) ⟨hx, hb, hml, hown, hts⟩ (x_Model_sign l H.size n h_9) (va_cwS 2 hts (tw_GS tw_cons cw_Model_sign lk_Model_842 st_Model_sign ini_Model) rfl rfl rfl hd_Model_sign ⟨Nat.le_of_ble_eq_true rfl, Nat.le_of_ble_eq_true rfl⟩) xpS0 rfl rfl hl.1 rfl (lv_room (Nat.le_of_ble_eq_true rfl)) d_Model_side_67 ⟨Nat.le_of_ble_eq_true rfl, Nat.le_of_ble_eq_true rfl⟩) hS (fun q _ h => hFc q h) hFc (fun r9 u9 t9 H locs ht hvm e9 hB hz1 hk1 hS => ?_)
    have e9 : r_10 = r9 := e9
    subst e9
    replace hP := x_keep hP hk1
    clear hFc hk1 hz1 hvm hB ht
    obtain ⟨e1i, e1j, e1a, e1b, e3⟩ := re4m hm
    obtain ⟨hP, hD⟩ := y_eq e1i e1j e1a e1b hP hD
    exact W.iret hx hb hr (fun t9 ht hW => ⟨⟨_, (), rfl, e3.symm, by rw [ht]; exact hP, hD⟩, hS.F ht⟩) hS.2.2 d_Model_side_70
  · replace hm := if_t c_2 hm
    refine lv_iconst (v := 0) hx hb d_Model_side_34 (by decide) ?_
    refine lv_goto (tgt := 70) hx hb d_Model_side_35 (by decide) ?_
    obtain ⟨e1i, e1j, e1a, e1b, e3⟩ := re4m hm
    obtain ⟨hP, hD⟩ := y_eq e1i e1j e1a e1b hP hD
    exact W.iret hx hb hr (fun t9 ht hW => ⟨⟨_, (), rfl, e3.symm, by rw [ht]; exact hP, hD⟩, hS.F ht⟩) hS.2.2 d_Model_side_70
def m_Model_side_b22 (n : Nat) (i : Nat → Int32) (j : Nat → Int64) (a : Nat → Nat → Int32) (b : Nat → Nat → Int64) (v1 : Int32) (v2 : Int32) (v3 : Int32) : Option ((Nat → Int32) × (Nat → Int64) × (Nat → Nat → Int32) × (Nat → Nat → Int64) × Int32) := m_Model_side_b23 n i j a b v1 v2 v3 (1 : Int32)
set_option maxHeartbeats 4000000 in
set_option maxRecDepth 100000 in
theorem lb_Model_side_22 (l : Launch) (dC : Nat → ClassId) (dI : Nat → Nat → Nat) (cI cJ cB : ClassId) (adK adV adA : Nat → Nat) (h : Nat) (v : Nat → Nat) (n : Nat) {p : Program} {e : Env} {s : State} {m : MethodId} {args : Array Value} {below : List Frame} {meth : Method} {c : Code} {A : Nat → Prop} (hx : p.tables.exec = Jvm.exec) (hb : c.code = b_Model_side) (hml : c.maxLocals = 4) (hown : s.vm.findClass R_Model = some m.cls) (hts : ∀ w ∈ w_Model_side, w.before args s = true) (hK : va_K (dC, dI) classes [(cI, .int), (cJ, .long), (cB, .byte)] s) (hE : tw_E adK adV adA A s s.heap) (hA : ∀ q : Nat, s.heap.size ≤ q → A q) (hr : meth.sig.returnType = (some .int)) (hlocks : meth.locks = false) {i2 : Nat → Int32} {j2 : Nat → Int64} {a2 : Nat → Nat → Int32} {b2 : Nat → Nat → Int64} {r2 : Int32} (i : Nat → Int32) (j : Nat → Int64) (a : Nat → Nat → Int32) (b : Nat → Nat → Int64) (v1 : Int32) (v2 : Int32) (v3 : Int32) (hm : m_Model_side_b22 n i j a b v1 v2 v3 = some (i2, j2, a2, b2, r2)) : ∀ (H : Heap) (locs : List Loc) (ls : Array Slot), va_P (dC, dI) classes (MW cI cJ cB h v i j a b) H → va_D A (MW cI cJ cB h v i j a b) → va_S A s.heap H locs → lv_has ls 4 [(0, .ref h), (1, .int v1), (2, .int v2), (3, .int v3)] → W p l e ({ frames := 2, cells := 0, slots := 0, locals := 50 } : Room) s m args below meth c H locs 0 0 (MQ below (va_Qi (xR r2) (yB dC dI cI cJ cB h v i2 j2 a2 b2 A) A) args s 0 0 A) (F0 m 22 ls [.ref h]) := by
  have htt : ∀ w ∈ tw_T, w.before _ s = true := fun w h => hts w (List.mem_cons_of_mem _ h)
  intro H locs ls hP hD hS hl
  rw [m_Model_side_b22] at hm
  refine lv_iconst (v := 1) hx hb d_Model_side_22 (by decide) ?_
  exact lb_Model_side_23 l dC dI cI cJ cB adK adV adA h v n hx hb hml hown hts hK hE hA hr hlocks _ _ _ _ _ _ _ _ hm _ _ _ hP hD hS (lv_sub hl [0, 1, 2, 3] rfl)
def m_Model_side_b18 (n : Nat) (i : Nat → Int32) (j : Nat → Int64) (a : Nat → Nat → Int32) (b : Nat → Nat → Int64) (v1 : Int32) (v2 : Int32) (v3 : Int32) : Option ((Nat → Int32) × (Nat → Int64) × (Nat → Nat → Int32) × (Nat → Nat → Int64) × Int32) := m_Model_side_b23 n i j a b v1 v2 v3 (0 : Int32)
set_option maxHeartbeats 4000000 in
set_option maxRecDepth 100000 in
theorem lb_Model_side_18 (l : Launch) (dC : Nat → ClassId) (dI : Nat → Nat → Nat) (cI cJ cB : ClassId) (adK adV adA : Nat → Nat) (h : Nat) (v : Nat → Nat) (n : Nat) {p : Program} {e : Env} {s : State} {m : MethodId} {args : Array Value} {below : List Frame} {meth : Method} {c : Code} {A : Nat → Prop} (hx : p.tables.exec = Jvm.exec) (hb : c.code = b_Model_side) (hml : c.maxLocals = 4) (hown : s.vm.findClass R_Model = some m.cls) (hts : ∀ w ∈ w_Model_side, w.before args s = true) (hK : va_K (dC, dI) classes [(cI, .int), (cJ, .long), (cB, .byte)] s) (hE : tw_E adK adV adA A s s.heap) (hA : ∀ q : Nat, s.heap.size ≤ q → A q) (hr : meth.sig.returnType = (some .int)) (hlocks : meth.locks = false) {i2 : Nat → Int32} {j2 : Nat → Int64} {a2 : Nat → Nat → Int32} {b2 : Nat → Nat → Int64} {r2 : Int32} (i : Nat → Int32) (j : Nat → Int64) (a : Nat → Nat → Int32) (b : Nat → Nat → Int64) (v1 : Int32) (v2 : Int32) (v3 : Int32) (hm : m_Model_side_b18 n i j a b v1 v2 v3 = some (i2, j2, a2, b2, r2)) : ∀ (H : Heap) (locs : List Loc) (ls : Array Slot), va_P (dC, dI) classes (MW cI cJ cB h v i j a b) H → va_D A (MW cI cJ cB h v i j a b) → va_S A s.heap H locs → lv_has ls 4 [(0, .ref h), (1, .int v1), (2, .int v2), (3, .int v3)] → W p l e ({ frames := 2, cells := 0, slots := 0, locals := 50 } : Room) s m args below meth c H locs 0 0 (MQ below (va_Qi (xR r2) (yB dC dI cI cJ cB h v i2 j2 a2 b2 A) A) args s 0 0 A) (F0 m 18 ls [.ref h]) := by
  have htt : ∀ w ∈ tw_T, w.before _ s = true := fun w h => hts w (List.mem_cons_of_mem _ h)
  intro H locs ls hP hD hS hl
  rw [m_Model_side_b18] at hm
  refine lv_iconst (v := 0) hx hb d_Model_side_18 (by decide) ?_
  refine lv_goto (tgt := 23) hx hb d_Model_side_19 (by decide) ?_
  exact lb_Model_side_23 l dC dI cI cJ cB adK adV adA h v n hx hb hml hown hts hK hE hA hr hlocks _ _ _ _ _ _ _ _ hm _ _ _ hP hD hS (lv_sub hl [0, 1, 2, 3] rfl)
def m_Model_side (n : Nat) (i : Nat → Int32) (j : Nat → Int64) (a : Nat → Nat → Int32) (b : Nat → Nat → Int64) (v1 : Int32) (v2 : Int32) (v3 : Int32) : Option ((Nat → Int32) × (Nat → Int64) × (Nat → Nat → Int32) × (Nat → Nat → Int64) × Int32) := ob0 (m_Model_isTurtle n i j a b v1) (fun r_2 => if r_2 = ((0 : Int32)) then m_Model_side_b22 n i j a b v1 v2 v3 else if v2 = ((0 : Int32)) then m_Model_side_b18 n i j a b v1 v2 v3 else if v2 = ((1 : Int32)) then m_Model_side_b18 n i j a b v1 v2 v3 else m_Model_side_b22 n i j a b v1 v2 v3)
set_option maxHeartbeats 4000000 in
set_option maxRecDepth 100000 in
theorem x_Model_side (l : Launch) (dC : Nat → ClassId) (dI : Nat → Nat → Nat) (cI cJ cB : ClassId) (adK adV adA : Nat → Nat) (h : Nat) (v : Nat → Nat) (sz : Nat) (n : Nat) {i : Nat → Int32} {j : Nat → Int64} {a : Nat → Nat → Int32} {b : Nat → Nat → Int64} {v1 : Int32} {v2 : Int32} {v3 : Int32} {i2 : Nat → Int32} {j2 : Nat → Int64} {a2 : Nat → Nat → Int32} {b2 : Nat → Nat → Int64} {r2 : Int32} (hm : m_Model_side n i j a b v1 v2 v3 = some (i2, j2, a2, b2, r2)) : Met l y_Model_side w_Model_side ({ frames := 2, cells := 0, slots := 0, locals := 50 } : Room) (va_Pc [.ref h, .int v1, .int v2, .int v3] (yE dC dI cI cJ cB adK adV adA h v i j a b sz)) (va_Qi (xR r2) (yB dC dI cI cJ cB h v i2 j2 a2 b2 (va_A (MW cI cJ cB h v i j a b) sz)) (va_A (MW cI cJ cB h v i j a b) sz)) 0 0 ((va_A (MW cI cJ cB h v i j a b) sz)) := by
  refine Met.ofW (cc := b_Model_side) (maxL := 4) (ret := (some .int)) (by decide) rfl ?_
  intro p e s m args below meth c s₁ B hml hv
  obtain ⟨rfl, hsz, hP, hK, hE, hD0⟩ := hv
  have hx := B.exec
  have hb := B.bytes
  have hr := B.returns
  have hts := atoms_spec (ws := w_Model_side) B.pre
  have htt : ∀ w ∈ tw_T, w.before _ s = true := fun w h => hts w (List.mem_cons_of_mem _ h)
  have hown : s.vm.findClass R_Model = some m.cls := findClass_of_methodNamed B.named
  have hlocks := B.notSynchronized
  subst hsz
  have hD := hD0.self (sz := s.heap.size)
  generalize hAe : (va_A (MW cI cJ cB h v i j a b) s.heap.size) = A at hD hE ⊢
  have hA : ∀ q : Nat, s.heap.size ≤ q → A q := fun q h => by rw [← hAe]; exact Or.inr h
  have hS : va_S A s.heap s.heap [] := va_S.rf
  have hl := lv_entry ([.ref h, .int v1, .int v2, .int v3]) (n := 4) (Nat.le_of_ble_eq_true rfl)
  rw [lg_entry_eq]
  generalize (lg_sl ([.ref h, .int v1, .int v2, .int v3]) ++ List.replicate (4 - (lg_sl ([.ref h, .int v1, .int v2, .int v3])).length) Slot.unset).toArray = ls at hl ⊢
  have hl : lv_has ls 4 [(0, .ref h), (1, .int v1), (2, .int v2), (3, .int v3)] := hl
  rw [m_Model_side] at hm
  refine lv_aload_n hx hb d_Model_side_0 rfl (lv_at hl 0 rfl) ?_
  refine lv_aload_n hx hb d_Model_side_1 rfl (lv_at hl 0 rfl) ?_
  refine lv_iload_n hx hb d_Model_side_2 rfl (lv_at hl 1 rfl) ?_
  obtain ⟨r_2, h_1, hm⟩ := ob0_some hm
  have hFc := x_free0 hS hA
  refine va_calli (va_runV (As := [.int v1]) (rest := [.ref h]) ⟨hx, hb, hml, hown, hts⟩ (x_Model_isTurtle l dC dI cI cJ cB adK adV adA h v s.heap.size n h_1) (cwV 1 hts (tw_GV tw_cons cw_Model_isTurtle lk_Model_849 in_Model_isTurtle sel_Model_isTurtle ini_Model) rfl rfl rfl ⟨rfl, hd_Model_isTurtle⟩ ⟨Nat.le_of_ble_eq_true rfl, Nat.le_of_ble_eq_true rfl⟩) (ypVr hK hP hS hE hFc yo_12 rfl) rfl rfl hl.1 rfl (lv_room (Nat.le_of_ble_eq_true rfl)) d_Model_side_3 ⟨Nat.le_of_ble_eq_true rfl, Nat.le_of_ble_eq_true rfl⟩) hS (fun q _ h => hFc q h) hFc (fun r9 u9 t9 H locs ht hvm e9 hB hz1 hk1 hS => ?_)
  have e9 : r_2 = r9 := e9
  subst e9
  replace hP := x_keep hP hk1
  clear hFc hk1 hz1 hvm hB ht
  refine lv_if_eq (tgt := 22) hx hb d_Model_side_6 (by decide) (fun c_3 => ?_) (fun c_3 => ?_)
  · replace hm := if_t c_3 hm
    exact lb_Model_side_22 l dC dI cI cJ cB adK adV adA h v n hx hb hml hown hts hK hE hA hr hlocks _ _ _ _ _ _ _ hm _ _ _ hP hD hS (lv_sub hl [0, 1, 2, 3] rfl)
  · replace hm := if_f c_3 hm
    refine lv_iload_n hx hb d_Model_side_9 rfl (lv_at hl 2 rfl) ?_
    refine lv_if_eq (tgt := 18) hx hb d_Model_side_10 (by decide) (fun c_4 => ?_) (fun c_4 => ?_)
    · replace hm := if_t c_4 hm
      exact lb_Model_side_18 l dC dI cI cJ cB adK adV adA h v n hx hb hml hown hts hK hE hA hr hlocks _ _ _ _ _ _ _ hm _ _ _ hP hD hS (lv_sub hl [0, 1, 2, 3] rfl)
    · replace hm := if_f c_4 hm
      refine lv_iload_n hx hb d_Model_side_13 rfl (lv_at hl 2 rfl) ?_
      refine lv_iconst (v := 1) hx hb d_Model_side_14 (by decide) ?_
      refine lv_icmp_ne (tgt := 22) hx hb d_Model_side_15 (by decide) (fun c_5 => ?_) (fun c_5 => ?_)
      · replace hm := if_f c_5 hm
        exact lb_Model_side_22 l dC dI cI cJ cB adK adV adA h v n hx hb hml hown hts hK hE hA hr hlocks _ _ _ _ _ _ _ hm _ _ _ hP hD hS (lv_sub hl [0, 1, 2, 3] rfl)
      · replace hm := if_t c_5 hm
        exact lb_Model_side_18 l dC dI cI cJ cB adK adV adA h v n hx hb hml hown hts hK hE hA hr hlocks _ _ _ _ _ _ _ hm _ _ _ hP hD hS (lv_sub hl [0, 1, 2, 3] rfl)
