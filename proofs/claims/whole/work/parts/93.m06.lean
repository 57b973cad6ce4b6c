theorem d_Model_tell_0 : decode b_Model_tell 0 = .ok (.aload_n 0, 1) := by decide +kernel
theorem d_Model_tell_1 : decode b_Model_tell 1 = .ok (.iload_n 1, 1) := by decide +kernel
theorem d_Model_tell_2 : decode b_Model_tell 2 = .ok (.invokevirtual 488, 3) := by decide +kernel
theorem d_Model_tell_5 : decode b_Model_tell 5 = .ok (.istore_n 2, 1) := by decide +kernel
theorem d_Model_tell_6 : decode b_Model_tell 6 = .ok (.iload_n 2, 1) := by decide +kernel
theorem d_Model_tell_7 : decode b_Model_tell 7 = .ok (.iconst (-1), 1) := by decide +kernel
theorem d_Model_tell_8 : decode b_Model_tell 8 = .ok (.if_icmp .ne 25, 3) := by decide +kernel
theorem d_Model_tell_11 : decode b_Model_tell 11 = .ok (.aload_n 0, 1) := by decide +kernel
theorem d_Model_tell_12 : decode b_Model_tell 12 = .ok (.getfield 344, 3) := by decide +kernel
theorem d_Model_tell_15 : decode b_Model_tell 15 = .ok (.istore_n 2, 1) := by decide +kernel
theorem d_Model_tell_16 : decode b_Model_tell 16 = .ok (.aload_n 0, 1) := by decide +kernel
theorem d_Model_tell_17 : decode b_Model_tell 17 = .ok (.dup, 1) := by decide +kernel
theorem d_Model_tell_18 : decode b_Model_tell 18 = .ok (.getfield 344, 3) := by decide +kernel
theorem d_Model_tell_21 : decode b_Model_tell 21 = .ok (.iconst 1, 1) := by decide +kernel
theorem d_Model_tell_22 : decode b_Model_tell 22 = .ok (.iadd, 1) := by decide +kernel
theorem d_Model_tell_23 : decode b_Model_tell 23 = .ok (.putfield 344, 3) := by decide +kernel
theorem d_Model_tell_26 : decode b_Model_tell 26 = .ok (.aload_n 0, 1) := by decide +kernel
theorem d_Model_tell_27 : decode b_Model_tell 27 = .ok (.getfield 183, 3) := by decide +kernel
theorem d_Model_tell_30 : decode b_Model_tell 30 = .ok (.iload_n 2, 1) := by decide +kernel
theorem d_Model_tell_31 : decode b_Model_tell 31 = .ok (.iload_n 1, 1) := by decide +kernel
theorem d_Model_tell_32 : decode b_Model_tell 32 = .ok (.iastore, 1) := by decide +kernel
theorem d_Model_tell_33 : decode b_Model_tell 33 = .ok (.iload_n 2, 1) := by decide +kernel
theorem d_Model_tell_34 : decode b_Model_tell 34 = .ok (.ireturn, 1) := by decide +kernel
theorem lk_Model_38 : Cond.methodLink "TurtleWorldModel" 38 ⟨"TurtleWorldModel", "sizeOf", "(J)I"⟩ ∈ tw_T := tw_i10 107 (by decide +kernel) (by decide +kernel)
theorem hd_Model_sizeOf : y_Model_sizeOf.cls ≠ "java/lang/invoke/MethodHandle" ∧ y_Model_sizeOf.cls ≠ "java/lang/invoke/VarHandle" ∧ (parseMethodDescriptor y_Model_sizeOf.desc).map (fun d => d.parameters.length) = some 1 := by decide +kernel
theorem in_Model_sizeOf : Cond.instanceMethod ⟨"TurtleWorldModel", "sizeOf", "(J)I"⟩ ∈ tw_T := tw_i10 109 (by decide +kernel) (by decide +kernel)
theorem sel_Model_sizeOf : Cond.selects "TurtleWorldModel" ⟨"TurtleWorldModel", "sizeOf", "(J)I"⟩ ⟨"TurtleWorldModel", "sizeOf", "(J)I"⟩ ∈ tw_T := tw_inS 107 (by decide +kernel) (by decide +kernel)
theorem hd_Model_move : y_Model_move.cls ≠ "java/lang/invoke/MethodHandle" ∧ y_Model_move.cls ≠ "java/lang/invoke/VarHandle" ∧ (parseMethodDescriptor y_Model_move.desc).map (fun d => d.parameters.length) = some 1 := by decide +kernel
theorem d_Model_fits_0 : decode b_Model_fits 0 = .ok (.iconst 0, 1) := by decide +kernel
theorem d_Model_fits_1 : decode b_Model_fits 1 = .ok (.istore_n 3, 1) := by decide +kernel
theorem d_Model_fits_2 : decode b_Model_fits 2 = .ok (.iload_n 3, 1) := by decide +kernel
theorem d_Model_fits_3 : decode b_Model_fits 3 = .ok (.aload_n 2, 1) := by decide +kernel
theorem d_Model_fits_4 : decode b_Model_fits 4 = .ok (.invokevirtual 75, 3) := by decide +kernel
theorem d_Model_fits_7 : decode b_Model_fits 7 = .ok (.if_icmp .ge 140, 3) := by decide +kernel
theorem d_Model_fits_10 : decode b_Model_fits 10 = .ok (.aload_n 0, 1) := by decide +kernel
theorem d_Model_fits_11 : decode b_Model_fits 11 = .ok (.getfield 301, 3) := by decide +kernel
theorem d_Model_fits_14 : decode b_Model_fits 14 = .ok (.iload_n 1, 1) := by decide +kernel
theorem d_Model_fits_15 : decode b_Model_fits 15 = .ok (.iload_n 3, 1) := by decide +kernel
theorem d_Model_fits_16 : decode b_Model_fits 16 = .ok (.iadd, 1) := by decide +kernel
theorem d_Model_fits_17 : decode b_Model_fits 17 = .ok (.laload, 1) := by decide +kernel
theorem d_Model_fits_18 : decode b_Model_fits 18 = .ok (.lstore 4, 2) := by decide +kernel
theorem d_Model_fits_20 : decode b_Model_fits 20 = .ok (.aload_n 2, 1) := by decide +kernel
theorem d_Model_fits_21 : decode b_Model_fits 21 = .ok (.iload_n 3, 1) := by decide +kernel
theorem d_Model_fits_22 : decode b_Model_fits 22 = .ok (.invokevirtual 81, 3) := by decide +kernel
theorem d_Model_fits_25 : decode b_Model_fits 25 = .ok (.istore 6, 2) := by decide +kernel
theorem d_Model_fits_27 : decode b_Model_fits 27 = .ok (.iload 6, 2) := by decide +kernel
theorem d_Model_fits_29 : decode b_Model_fits 29 = .ok (.bipush 110, 2) := by decide +kernel
theorem d_Model_fits_31 : decode b_Model_fits 31 = .ok (.if_icmp .ne 11, 3) := by decide +kernel
theorem d_Model_fits_34 : decode b_Model_fits 34 = .ok (.lload 4, 2) := by decide +kernel
theorem d_Model_fits_36 : decode b_Model_fits 36 = .ok (.invokestatic 57, 3) := by decide +kernel
theorem d_Model_fits_39 : decode b_Model_fits 39 = .ok (.goto 87, 3) := by decide +kernel
theorem d_Model_fits_42 : decode b_Model_fits 42 = .ok (.iload 6, 2) := by decide +kernel
theorem d_Model_fits_44 : decode b_Model_fits 44 = .ok (.bipush 108, 2) := by decide +kernel
theorem d_Model_fits_46 : decode b_Model_fits 46 = .ok (.if_icmp .ne 11, 3) := by decide +kernel
theorem d_Model_fits_49 : decode b_Model_fits 49 = .ok (.lload 4, 2) := by decide +kernel
theorem d_Model_fits_51 : decode b_Model_fits 51 = .ok (.invokestatic 95, 3) := by decide +kernel
theorem d_Model_fits_54 : decode b_Model_fits 54 = .ok (.goto 72, 3) := by decide +kernel
theorem d_Model_fits_57 : decode b_Model_fits 57 = .ok (.iload 6, 2) := by decide +kernel
theorem d_Model_fits_59 : decode b_Model_fits 59 = .ok (.bipush 119, 2) := by decide +kernel
theorem d_Model_fits_61 : decode b_Model_fits 61 = .ok (.if_icmp .ne 11, 3) := by decide +kernel
theorem d_Model_fits_64 : decode b_Model_fits 64 = .ok (.lload 4, 2) := by decide +kernel
theorem d_Model_fits_66 : decode b_Model_fits 66 = .ok (.invokestatic 61, 3) := by decide +kernel
theorem d_Model_fits_69 : decode b_Model_fits 69 = .ok (.goto 57, 3) := by decide +kernel
theorem d_Model_fits_72 : decode b_Model_fits 72 = .ok (.iload 6, 2) := by decide +kernel
theorem d_Model_fits_74 : decode b_Model_fits 74 = .ok (.bipush 98, 2) := by decide +kernel
theorem d_Model_fits_76 : decode b_Model_fits 76 = .ok (.if_icmp .ne 12, 3) := by decide +kernel
theorem d_Model_fits_79 : decode b_Model_fits 79 = .ok (.aload_n 0, 1) := by decide +kernel
theorem d_Model_fits_80 : decode b_Model_fits 80 = .ok (.lload 4, 2) := by decide +kernel
theorem d_Model_fits_82 : decode b_Model_fits 82 = .ok (.invokevirtual 659, 3) := by decide +kernel
theorem d_Model_fits_85 : decode b_Model_fits 85 = .ok (.goto 41, 3) := by decide +kernel
theorem d_Model_fits_88 : decode b_Model_fits 88 = .ok (.iload 6, 2) := by decide +kernel
theorem d_Model_fits_90 : decode b_Model_fits 90 = .ok (.bipush 116, 2) := by decide +kernel
theorem d_Model_fits_92 : decode b_Model_fits 92 = .ok (.if_icmp .ne 29, 3) := by decide +kernel
theorem d_Model_fits_95 : decode b_Model_fits 95 = .ok (.lload 4, 2) := by decide +kernel
theorem d_Model_fits_97 : decode b_Model_fits 97 = .ok (.invokestatic 57, 3) := by decide +kernel
theorem d_Model_fits_100 : decode b_Model_fits 100 = .ok (.ifCond .eq 25, 3) := by decide +kernel
theorem d_Model_fits_103 : decode b_Model_fits 103 = .ok (.lload 4, 2) := by decide +kernel
theorem d_Model_fits_105 : decode b_Model_fits 105 = .ok (.invokestatic 64, 3) := by decide +kernel
theorem d_Model_fits_108 : decode b_Model_fits 108 = .ok (.ifCond .lt 17, 3) := by decide +kernel
theorem d_Model_fits_111 : decode b_Model_fits 111 = .ok (.lload 4, 2) := by decide +kernel
theorem d_Model_fits_113 : decode b_Model_fits 113 = .ok (.invokestatic 64, 3) := by decide +kernel
theorem d_Model_fits_116 : decode b_Model_fits 116 = .ok (.bipush 8, 2) := by decide +kernel
theorem d_Model_fits_118 : decode b_Model_fits 118 = .ok (.if_icmp .ge 7, 3) := by decide +kernel
theorem d_Model_fits_121 : decode b_Model_fits 121 = .ok (.iconst 1, 1) := by decide +kernel
theorem d_Model_fits_122 : decode b_Model_fits 122 = .ok (.goto 4, 3) := by decide +kernel
theorem d_Model_fits_125 : decode b_Model_fits 125 = .ok (.iconst 0, 1) := by decide +kernel
theorem d_Model_fits_126 : decode b_Model_fits 126 = .ok (.istore 7, 2) := by decide +kernel
theorem d_Model_fits_128 : decode b_Model_fits 128 = .ok (.iload 7, 2) := by decide +kernel
theorem d_Model_fits_130 : decode b_Model_fits 130 = .ok (.ifCond .ne 11, 3) := by decide +kernel
theorem d_Model_fits_133 : decode b_Model_fits 133 = .ok (.aload_n 0, 1) := by decide +kernel
theorem d_Model_fits_134 : decode b_Model_fits 134 = .ok (.iconst 3, 1) := by decide +kernel
theorem d_Model_fits_135 : decode b_Model_fits 135 = .ok (.invokevirtual 596, 3) := by decide +kernel
theorem d_Model_fits_138 : decode b_Model_fits 138 = .ok (.pop2, 1) := by decide +kernel
theorem d_Model_fits_139 : decode b_Model_fits 139 = .ok (.iconst 0, 1) := by decide +kernel
theorem d_Model_fits_140 : decode b_Model_fits 140 = .ok (.ireturn, 1) := by decide +kernel
theorem d_Model_fits_141 : decode b_Model_fits 141 = .ok (.iinc 3 1, 3) := by decide +kernel
theorem d_Model_fits_144 : decode b_Model_fits 144 = .ok (.goto (-142), 3) := by decide +kernel
theorem d_Model_fits_147 : decode b_Model_fits 147 = .ok (.iconst 1, 1) := by decide +kernel
theorem d_Model_fits_148 : decode b_Model_fits 148 = .ok (.ireturn, 1) := by decide +kernel
theorem lk_Model_659 : Cond.methodLink "TurtleWorldModel" 659 ⟨"TurtleWorldModel", "isTruth", "(J)Z"⟩ ∈ tw_T := tw_i11 4 (by decide +kernel) (by decide +kernel)
theorem hd_Model_isTruth : y_Model_isTruth.cls ≠ "java/lang/invoke/MethodHandle" ∧ y_Model_isTruth.cls ≠ "java/lang/invoke/VarHandle" ∧ (parseMethodDescriptor y_Model_isTruth.desc).map (fun d => d.parameters.length) = some 1 := by decide +kernel
theorem in_Model_isTruth : Cond.instanceMethod ⟨"TurtleWorldModel", "isTruth", "(J)Z"⟩ ∈ tw_T := tw_i11 6 (by decide +kernel) (by decide +kernel)
theorem sel_Model_isTruth : Cond.selects "TurtleWorldModel" ⟨"TurtleWorldModel", "isTruth", "(J)Z"⟩ ⟨"TurtleWorldModel", "isTruth", "(J)Z"⟩ ∈ tw_T := tw_inS 131 (by decide +kernel) (by decide +kernel)
theorem d_Model_steps_0 : decode b_Model_steps 0 = .ok (.aload_n 0, 1) := by decide +kernel
theorem d_Model_steps_1 : decode b_Model_steps 1 = .ok (.getfield 213, 3) := by decide +kernel
theorem d_Model_steps_4 : decode b_Model_steps 4 = .ok (.iload_n 1, 1) := by decide +kernel
theorem d_Model_steps_5 : decode b_Model_steps 5 = .ok (.iaload, 1) := by decide +kernel
theorem d_Model_steps_6 : decode b_Model_steps 6 = .ok (.bipush 6, 2) := by decide +kernel
theorem d_Model_steps_8 : decode b_Model_steps 8 = .ok (.irem, 1) := by decide +kernel
theorem d_Model_steps_9 : decode b_Model_steps 9 = .ok (.istore_n 3, 1) := by decide +kernel
theorem d_Model_steps_10 : decode b_Model_steps 10 = .ok (.aload_n 0, 1) := by decide +kernel
theorem d_Model_steps_11 : decode b_Model_steps 11 = .ok (.getfield 213, 3) := by decide +kernel
theorem d_Model_steps_14 : decode b_Model_steps 14 = .ok (.iload_n 1, 1) := by decide +kernel
theorem d_Model_steps_15 : decode b_Model_steps 15 = .ok (.iaload, 1) := by decide +kernel
theorem d_Model_steps_16 : decode b_Model_steps 16 = .ok (.bipush 6, 2) := by decide +kernel
theorem d_Model_steps_18 : decode b_Model_steps 18 = .ok (.if_icmp .ge 7, 3) := by decide +kernel
theorem d_Model_steps_21 : decode b_Model_steps 21 = .ok (.iload_n 2, 1) := by decide +kernel
theorem d_Model_steps_22 : decode b_Model_steps 22 = .ok (.goto 5, 3) := by decide +kernel
theorem d_Model_steps_25 : decode b_Model_steps 25 = .ok (.iload_n 2, 1) := by decide +kernel
theorem d_Model_steps_26 : decode b_Model_steps 26 = .ok (.ineg, 1) := by decide +kernel
theorem d_Model_steps_27 : decode b_Model_steps 27 = .ok (.istore 4, 2) := by decide +kernel
theorem d_Model_steps_29 : decode b_Model_steps 29 = .ok (.aload_n 0, 1) := by decide +kernel
theorem d_Model_steps_30 : decode b_Model_steps 30 = .ok (.getfield 201, 3) := by decide +kernel
theorem d_Model_steps_33 : decode b_Model_steps 33 = .ok (.iload_n 1, 1) := by decide +kernel
theorem d_Model_steps_34 : decode b_Model_steps 34 = .ok (.iaload, 1) := by decide +kernel
theorem d_Model_steps_35 : decode b_Model_steps 35 = .ok (.iload_n 3, 1) := by decide +kernel
theorem d_Model_steps_36 : decode b_Model_steps 36 = .ok (.iconst 1, 1) := by decide +kernel
theorem d_Model_steps_37 : decode b_Model_steps 37 = .ok (.if_icmp .eq 8, 3) := by decide +kernel
theorem d_Model_steps_40 : decode b_Model_steps 40 = .ok (.iload_n 3, 1) := by decide +kernel
theorem d_Model_steps_41 : decode b_Model_steps 41 = .ok (.iconst 5, 1) := by decide +kernel
theorem d_Model_steps_42 : decode b_Model_steps 42 = .ok (.if_icmp .ne 8, 3) := by decide +kernel
theorem d_Model_steps_45 : decode b_Model_steps 45 = .ok (.iload 4, 2) := by decide +kernel
theorem d_Model_steps_47 : decode b_Model_steps 47 = .ok (.goto 16, 3) := by decide +kernel
theorem d_Model_steps_50 : decode b_Model_steps 50 = .ok (.iload_n 3, 1) := by decide +kernel
theorem d_Model_steps_51 : decode b_Model_steps 51 = .ok (.iconst 3, 1) := by decide +kernel
theorem d_Model_steps_52 : decode b_Model_steps 52 = .ok (.if_icmp .ne 10, 3) := by decide +kernel
theorem d_Model_steps_55 : decode b_Model_steps 55 = .ok (.iconst 2, 1) := by decide +kernel
theorem d_Model_steps_56 : decode b_Model_steps 56 = .ok (.iload 4, 2) := by decide +kernel
theorem d_Model_steps_58 : decode b_Model_steps 58 = .ok (.imul, 1) := by decide +kernel
theorem d_Model_steps_59 : decode b_Model_steps 59 = .ok (.goto 4, 3) := by decide +kernel
theorem d_Model_steps_62 : decode b_Model_steps 62 = .ok (.iconst 0, 1) := by decide +kernel
theorem d_Model_steps_63 : decode b_Model_steps 63 = .ok (.iadd, 1) := by decide +kernel
theorem d_Model_steps_64 : decode b_Model_steps 64 = .ok (.istore 5, 2) := by decide +kernel
theorem d_Model_steps_66 : decode b_Model_steps 66 = .ok (.aload_n 0, 1) := by decide +kernel
theorem d_Model_steps_67 : decode b_Model_steps 67 = .ok (.getfield 204, 3) := by decide +kernel
theorem d_Model_steps_70 : decode b_Model_steps 70 = .ok (.iload_n 1, 1) := by decide +kernel
theorem d_Model_steps_71 : decode b_Model_steps 71 = .ok (.iaload, 1) := by decide +kernel
theorem d_Model_steps_72 : decode b_Model_steps 72 = .ok (.iload_n 3, 1) := by decide +kernel
theorem d_Model_steps_73 : decode b_Model_steps 73 = .ok (.iconst 2, 1) := by decide +kernel
theorem d_Model_steps_74 : decode b_Model_steps 74 = .ok (.if_icmp .eq 8, 3) := by decide +kernel
theorem d_Model_steps_77 : decode b_Model_steps 77 = .ok (.iload_n 3, 1) := by decide +kernel
theorem d_Model_steps_78 : decode b_Model_steps 78 = .ok (.iconst 4, 1) := by decide +kernel
theorem d_Model_steps_79 : decode b_Model_steps 79 = .ok (.if_icmp .ne 8, 3) := by decide +kernel
theorem d_Model_steps_82 : decode b_Model_steps 82 = .ok (.iload 4, 2) := by decide +kernel
theorem d_Model_steps_84 : decode b_Model_steps 84 = .ok (.goto 4, 3) := by decide +kernel
theorem d_Model_steps_87 : decode b_Model_steps 87 = .ok (.iconst 0, 1) := by decide +kernel
theorem d_Model_steps_88 : decode b_Model_steps 88 = .ok (.iadd, 1) := by decide +kernel
theorem d_Model_steps_89 : decode b_Model_steps 89 = .ok (.istore 6, 2) := by decide +kernel
theorem d_Model_steps_91 : decode b_Model_steps 91 = .ok (.aload_n 0, 1) := by decide +kernel
theorem d_Model_steps_92 : decode b_Model_steps 92 = .ok (.getfield 207, 3) := by decide +kernel
theorem d_Model_steps_95 : decode b_Model_steps 95 = .ok (.iload_n 1, 1) := by decide +kernel
theorem d_Model_steps_96 : decode b_Model_steps 96 = .ok (.iaload, 1) := by decide +kernel
theorem d_Model_steps_97 : decode b_Model_steps 97 = .ok (.iload_n 3, 1) := by decide +kernel
theorem d_Model_steps_98 : decode b_Model_steps 98 = .ok (.ifCond .ne 10, 3) := by decide +kernel
theorem d_Model_steps_101 : decode b_Model_steps 101 = .ok (.iconst 2, 1) := by decide +kernel
theorem d_Model_steps_102 : decode b_Model_steps 102 = .ok (.iload 4, 2) := by decide +kernel
theorem d_Model_steps_104 : decode b_Model_steps 104 = .ok (.imul, 1) := by decide +kernel
theorem d_Model_steps_105 : decode b_Model_steps 105 = .ok (.goto 25, 3) := by decide +kernel
theorem d_Model_steps_108 : decode b_Model_steps 108 = .ok (.iload_n 3, 1) := by decide +kernel
theorem d_Model_steps_109 : decode b_Model_steps 109 = .ok (.iconst 2, 1) := by decide +kernel
theorem d_Model_steps_110 : decode b_Model_steps 110 = .ok (.if_icmp .ne 8, 3) := by decide +kernel
theorem d_Model_steps_113 : decode b_Model_steps 113 = .ok (.iload 4, 2) := by decide +kernel
theorem d_Model_steps_115 : decode b_Model_steps 115 = .ok (.goto 15, 3) := by decide +kernel
theorem d_Model_steps_118 : decode b_Model_steps 118 = .ok (.iload_n 3, 1) := by decide +kernel
theorem d_Model_steps_119 : decode b_Model_steps 119 = .ok (.iconst 4, 1) := by decide +kernel
theorem d_Model_steps_120 : decode b_Model_steps 120 = .ok (.if_icmp .ne 9, 3) := by decide +kernel
theorem d_Model_steps_123 : decode b_Model_steps 123 = .ok (.iload 4, 2) := by decide +kernel
theorem d_Model_steps_125 : decode b_Model_steps 125 = .ok (.ineg, 1) := by decide +kernel
theorem d_Model_steps_126 : decode b_Model_steps 126 = .ok (.goto 4, 3) := by decide +kernel
theorem d_Model_steps_129 : decode b_Model_steps 129 = .ok (.iconst 0, 1) := by decide +kernel
theorem d_Model_steps_130 : decode b_Model_steps 130 = .ok (.iadd, 1) := by decide +kernel
theorem d_Model_steps_131 : decode b_Model_steps 131 = .ok (.istore 7, 2) := by decide +kernel
theorem d_Model_steps_133 : decode b_Model_steps 133 = .ok (.aload_n 0, 1) := by decide +kernel
theorem d_Model_steps_134 : decode b_Model_steps 134 = .ok (.getfield 210, 3) := by decide +kernel
theorem d_Model_steps_137 : decode b_Model_steps 137 = .ok (.iload_n 1, 1) := by decide +kernel
theorem d_Model_steps_138 : decode b_Model_steps 138 = .ok (.iaload, 1) := by decide +kernel
theorem d_Model_steps_139 : decode b_Model_steps 139 = .ok (.iload_n 3, 1) := by decide +kernel
theorem d_Model_steps_140 : decode b_Model_steps 140 = .ok (.iconst 1, 1) := by decide +kernel
theorem d_Model_steps_141 : decode b_Model_steps 141 = .ok (.if_icmp .ne 8, 3) := by decide +kernel
theorem d_Model_steps_144 : decode b_Model_steps 144 = .ok (.iload 4, 2) := by decide +kernel
theorem d_Model_steps_146 : decode b_Model_steps 146 = .ok (.goto 15, 3) := by decide +kernel
theorem d_Model_steps_149 : decode b_Model_steps 149 = .ok (.iload_n 3, 1) := by decide +kernel
theorem d_Model_steps_150 : decode b_Model_steps 150 = .ok (.iconst 5, 1) := by decide +kernel
theorem d_Model_steps_151 : decode b_Model_steps 151 = .ok (.if_icmp .ne 9, 3) := by decide +kernel
theorem d_Model_steps_154 : decode b_Model_steps 154 = .ok (.iload 4, 2) := by decide +kernel
theorem d_Model_steps_156 : decode b_Model_steps 156 = .ok (.ineg, 1) := by decide +kernel
theorem d_Model_steps_157 : decode b_Model_steps 157 = .ok (.goto 4, 3) := by decide +kernel
theorem d_Model_steps_160 : decode b_Model_steps 160 = .ok (.iconst 0, 1) := by decide +kernel
theorem d_Model_steps_161 : decode b_Model_steps 161 = .ok (.iadd, 1) := by decide +kernel
theorem d_Model_steps_162 : decode b_Model_steps 162 = .ok (.istore 8, 2) := by decide +kernel
theorem d_Model_steps_164 : decode b_Model_steps 164 = .ok (.iload 5, 2) := by decide +kernel
theorem d_Model_steps_166 : decode b_Model_steps 166 = .ok (.invokestatic 835, 3) := by decide +kernel
theorem d_Model_steps_169 : decode b_Model_steps 169 = .ok (.ifCond .ne 27, 3) := by decide +kernel
theorem d_Model_steps_172 : decode b_Model_steps 172 = .ok (.iload 6, 2) := by decide +kernel
theorem d_Model_steps_174 : decode b_Model_steps 174 = .ok (.invokestatic 835, 3) := by decide +kernel
theorem d_Model_steps_177 : decode b_Model_steps 177 = .ok (.ifCond .ne 19, 3) := by decide +kernel
theorem d_Model_steps_180 : decode b_Model_steps 180 = .ok (.iload 7, 2) := by decide +kernel
theorem d_Model_steps_182 : decode b_Model_steps 182 = .ok (.invokestatic 835, 3) := by decide +kernel
theorem d_Model_steps_185 : decode b_Model_steps 185 = .ok (.ifCond .ne 11, 3) := by decide +kernel
theorem d_Model_steps_188 : decode b_Model_steps 188 = .ok (.iload 8, 2) := by decide +kernel
theorem d_Model_steps_190 : decode b_Model_steps 190 = .ok (.invokestatic 835, 3) := by decide +kernel
theorem d_Model_steps_193 : decode b_Model_steps 193 = .ok (.ifCond .eq 10, 3) := by decide +kernel
theorem d_Model_steps_196 : decode b_Model_steps 196 = .ok (.aload_n 0, 1) := by decide +kernel
theorem d_Model_steps_197 : decode b_Model_steps 197 = .ok (.bipush 7, 2) := by decide +kernel
theorem d_Model_steps_199 : decode b_Model_steps 199 = .ok (.invokevirtual 596, 3) := by decide +kernel
theorem d_Model_steps_202 : decode b_Model_steps 202 = .ok (.lreturn, 1) := by decide +kernel
theorem d_Model_steps_203 : decode b_Model_steps 203 = .ok (.iload_n 3, 1) := by decide +kernel
theorem d_Model_steps_204 : decode b_Model_steps 204 = .ok (.iconst 2, 1) := by decide +kernel
theorem d_Model_steps_205 : decode b_Model_steps 205 = .ok (.if_icmp .lt 12, 3) := by decide +kernel
theorem d_Model_steps_208 : decode b_Model_steps 208 = .ok (.iload_n 3, 1) := by decide +kernel
theorem d_Model_steps_209 : decode b_Model_steps 209 = .ok (.iconst 4, 1) := by decide +kernel
theorem d_Model_steps_210 : decode b_Model_steps 210 = .ok (.if_icmp .gt 7, 3) := by decide +kernel
theorem d_Model_steps_213 : decode b_Model_steps 213 = .ok (.iconst 1, 1) := by decide +kernel
theorem d_Model_steps_214 : decode b_Model_steps 214 = .ok (.goto 4, 3) := by decide +kernel
theorem d_Model_steps_217 : decode b_Model_steps 217 = .ok (.iconst 0, 1) := by decide +kernel
theorem d_Model_steps_218 : decode b_Model_steps 218 = .ok (.istore 9, 2) := by decide +kernel
theorem d_Model_steps_220 : decode b_Model_steps 220 = .ok (.aload_n 0, 1) := by decide +kernel
theorem d_Model_steps_221 : decode b_Model_steps 221 = .ok (.getfield 219, 3) := by decide +kernel
theorem d_Model_steps_224 : decode b_Model_steps 224 = .ok (.iload_n 1, 1) := by decide +kernel
theorem d_Model_steps_225 : decode b_Model_steps 225 = .ok (.iaload, 1) := by decide +kernel
theorem d_Model_steps_226 : decode b_Model_steps 226 = .ok (.iconst 1, 1) := by decide +kernel
theorem d_Model_steps_227 : decode b_Model_steps 227 = .ok (.if_icmp .ne 73, 3) := by decide +kernel
theorem d_Model_steps_230 : decode b_Model_steps 230 = .ok (.iload 9, 2) := by decide +kernel
theorem d_Model_steps_232 : decode b_Model_steps 232 = .ok (.ifCond .eq 68, 3) := by decide +kernel
theorem d_Model_steps_235 : decode b_Model_steps 235 = .ok (.aload_n 0, 1) := by decide +kernel
theorem d_Model_steps_236 : decode b_Model_steps 236 = .ok (.aload_n 0, 1) := by decide +kernel
theorem d_Model_steps_237 : decode b_Model_steps 237 = .ok (.getfield 201, 3) := by decide +kernel
theorem d_Model_steps_240 : decode b_Model_steps 240 = .ok (.iload_n 1, 1) := by decide +kernel
theorem d_Model_steps_241 : decode b_Model_steps 241 = .ok (.iaload, 1) := by decide +kernel
theorem d_Model_steps_242 : decode b_Model_steps 242 = .ok (.aload_n 0, 1) := by decide +kernel
theorem d_Model_steps_243 : decode b_Model_steps 243 = .ok (.getfield 204, 3) := by decide +kernel
theorem d_Model_steps_246 : decode b_Model_steps 246 = .ok (.iload_n 1, 1) := by decide +kernel
theorem d_Model_steps_247 : decode b_Model_steps 247 = .ok (.iaload, 1) := by decide +kernel
theorem d_Model_steps_248 : decode b_Model_steps 248 = .ok (.aload_n 0, 1) := by decide +kernel
theorem d_Model_steps_249 : decode b_Model_steps 249 = .ok (.getfield 207, 3) := by decide +kernel
theorem d_Model_steps_252 : decode b_Model_steps 252 = .ok (.iload_n 1, 1) := by decide +kernel
theorem d_Model_steps_253 : decode b_Model_steps 253 = .ok (.iaload, 1) := by decide +kernel
theorem d_Model_steps_254 : decode b_Model_steps 254 = .ok (.aload_n 0, 1) := by decide +kernel
theorem d_Model_steps_255 : decode b_Model_steps 255 = .ok (.getfield 210, 3) := by decide +kernel
theorem d_Model_steps_258 : decode b_Model_steps 258 = .ok (.iload_n 1, 1) := by decide +kernel
theorem d_Model_steps_259 : decode b_Model_steps 259 = .ok (.iaload, 1) := by decide +kernel
theorem d_Model_steps_260 : decode b_Model_steps 260 = .ok (.iload 5, 2) := by decide +kernel
theorem d_Model_steps_262 : decode b_Model_steps 262 = .ok (.iload 6, 2) := by decide +kernel
theorem d_Model_steps_264 : decode b_Model_steps 264 = .ok (.iload 7, 2) := by decide +kernel
theorem d_Model_steps_266 : decode b_Model_steps 266 = .ok (.iload 8, 2) := by decide +kernel
theorem d_Model_steps_268 : decode b_Model_steps 268 = .ok (.iload_n 3, 1) := by decide +kernel
theorem d_Model_steps_269 : decode b_Model_steps 269 = .ok (.iconst 3, 1) := by decide +kernel
theorem d_Model_steps_270 : decode b_Model_steps 270 = .ok (.if_icmp .ne 7, 3) := by decide +kernel
theorem d_Model_steps_273 : decode b_Model_steps 273 = .ok (.iconst 0, 1) := by decide +kernel
theorem d_Model_steps_274 : decode b_Model_steps 274 = .ok (.goto 13, 3) := by decide +kernel
theorem d_Model_steps_277 : decode b_Model_steps 277 = .ok (.iload_n 3, 1) := by decide +kernel
theorem d_Model_steps_278 : decode b_Model_steps 278 = .ok (.iconst 2, 1) := by decide +kernel
theorem d_Model_steps_279 : decode b_Model_steps 279 = .ok (.if_icmp .ne 7, 3) := by decide +kernel
theorem d_Model_steps_282 : decode b_Model_steps 282 = .ok (.iconst 1, 1) := by decide +kernel
theorem d_Model_steps_283 : decode b_Model_steps 283 = .ok (.goto 4, 3) := by decide +kernel
theorem d_Model_steps_286 : decode b_Model_steps 286 = .ok (.iconst (-1), 1) := by decide +kernel
theorem d_Model_steps_287 : decode b_Model_steps 287 = .ok (.aload_n 0, 1) := by decide +kernel
theorem d_Model_steps_288 : decode b_Model_steps 288 = .ok (.getfield 216, 3) := by decide +kernel
theorem d_Model_steps_291 : decode b_Model_steps 291 = .ok (.iload_n 1, 1) := by decide +kernel
theorem d_Model_steps_292 : decode b_Model_steps 292 = .ok (.iaload, 1) := by decide +kernel
theorem d_Model_steps_293 : decode b_Model_steps 293 = .ok (.iconst 0, 1) := by decide +kernel
theorem d_Model_steps_294 : decode b_Model_steps 294 = .ok (.invokevirtual 838, 3) := by decide +kernel
theorem d_Model_steps_297 : decode b_Model_steps 297 = .ok (.goto 74, 3) := by decide +kernel
theorem d_Model_steps_300 : decode b_Model_steps 300 = .ok (.aload_n 0, 1) := by decide +kernel
theorem d_Model_steps_301 : decode b_Model_steps 301 = .ok (.getfield 219, 3) := by decide +kernel
theorem d_Model_steps_304 : decode b_Model_steps 304 = .ok (.iload_n 1, 1) := by decide +kernel
theorem d_Model_steps_305 : decode b_Model_steps 305 = .ok (.iaload, 1) := by decide +kernel
theorem d_Model_steps_306 : decode b_Model_steps 306 = .ok (.iconst 1, 1) := by decide +kernel
theorem d_Model_steps_307 : decode b_Model_steps 307 = .ok (.if_icmp .ne 64, 3) := by decide +kernel
theorem d_Model_steps_310 : decode b_Model_steps 310 = .ok (.aload_n 0, 1) := by decide +kernel
theorem d_Model_steps_311 : decode b_Model_steps 311 = .ok (.aload_n 0, 1) := by decide +kernel
theorem d_Model_steps_312 : decode b_Model_steps 312 = .ok (.getfield 207, 3) := by decide +kernel
theorem d_Model_steps_315 : decode b_Model_steps 315 = .ok (.iload_n 1, 1) := by decide +kernel
theorem d_Model_steps_316 : decode b_Model_steps 316 = .ok (.iaload, 1) := by decide +kernel
theorem d_Model_steps_317 : decode b_Model_steps 317 = .ok (.aload_n 0, 1) := by decide +kernel
theorem d_Model_steps_318 : decode b_Model_steps 318 = .ok (.getfield 210, 3) := by decide +kernel
theorem d_Model_steps_321 : decode b_Model_steps 321 = .ok (.iload_n 1, 1) := by decide +kernel
theorem d_Model_steps_322 : decode b_Model_steps 322 = .ok (.iaload, 1) := by decide +kernel
theorem d_Model_steps_323 : decode b_Model_steps 323 = .ok (.aload_n 0, 1) := by decide +kernel
theorem d_Model_steps_324 : decode b_Model_steps 324 = .ok (.getfield 201, 3) := by decide +kernel
theorem d_Model_steps_327 : decode b_Model_steps 327 = .ok (.iload_n 1, 1) := by decide +kernel
theorem d_Model_steps_328 : decode b_Model_steps 328 = .ok (.iaload, 1) := by decide +kernel
theorem d_Model_steps_329 : decode b_Model_steps 329 = .ok (.aload_n 0, 1) := by decide +kernel
theorem d_Model_steps_330 : decode b_Model_steps 330 = .ok (.getfield 204, 3) := by decide +kernel
theorem d_Model_steps_333 : decode b_Model_steps 333 = .ok (.iload_n 1, 1) := by decide +kernel
theorem d_Model_steps_334 : decode b_Model_steps 334 = .ok (.iaload, 1) := by decide +kernel
theorem d_Model_steps_335 : decode b_Model_steps 335 = .ok (.iload 7, 2) := by decide +kernel
theorem d_Model_steps_337 : decode b_Model_steps 337 = .ok (.iload 8, 2) := by decide +kernel
theorem d_Model_steps_339 : decode b_Model_steps 339 = .ok (.iload 5, 2) := by decide +kernel
theorem d_Model_steps_341 : decode b_Model_steps 341 = .ok (.iload 6, 2) := by decide +kernel
theorem d_Model_steps_343 : decode b_Model_steps 343 = .ok (.iload_n 3, 1) := by decide +kernel
theorem d_Model_steps_344 : decode b_Model_steps 344 = .ok (.ifCond .ne 7, 3) := by decide +kernel
theorem d_Model_steps_347 : decode b_Model_steps 347 = .ok (.iconst 0, 1) := by decide +kernel
theorem d_Model_steps_348 : decode b_Model_steps 348 = .ok (.goto 13, 3) := by decide +kernel
theorem d_Model_steps_351 : decode b_Model_steps 351 = .ok (.iload_n 3, 1) := by decide +kernel
theorem d_Model_steps_352 : decode b_Model_steps 352 = .ok (.iconst 1, 1) := by decide +kernel
theorem d_Model_steps_353 : decode b_Model_steps 353 = .ok (.if_icmp .ne 7, 3) := by decide +kernel
theorem d_Model_steps_356 : decode b_Model_steps 356 = .ok (.iconst 1, 1) := by decide +kernel
theorem d_Model_steps_357 : decode b_Model_steps 357 = .ok (.goto 4, 3) := by decide +kernel
theorem d_Model_steps_360 : decode b_Model_steps 360 = .ok (.iconst (-1), 1) := by decide +kernel
theorem d_Model_steps_361 : decode b_Model_steps 361 = .ok (.aload_n 0, 1) := by decide +kernel
theorem d_Model_steps_362 : decode b_Model_steps 362 = .ok (.getfield 216, 3) := by decide +kernel
theorem d_Model_steps_365 : decode b_Model_steps 365 = .ok (.iload_n 1, 1) := by decide +kernel
theorem d_Model_steps_366 : decode b_Model_steps 366 = .ok (.iaload, 1) := by decide +kernel
theorem d_Model_steps_367 : decode b_Model_steps 367 = .ok (.iconst 1, 1) := by decide +kernel
theorem d_Model_steps_368 : decode b_Model_steps 368 = .ok (.invokevirtual 838, 3) := by decide +kernel
theorem d_Model_steps_371 : decode b_Model_steps 371 = .ok (.aload_n 0, 1) := by decide +kernel
theorem d_Model_steps_372 : decode b_Model_steps 372 = .ok (.iload_n 1, 1) := by decide +kernel
theorem d_Model_steps_373 : decode b_Model_steps 373 = .ok (.iload 5, 2) := by decide +kernel
theorem d_Model_steps_375 : decode b_Model_steps 375 = .ok (.iload 6, 2) := by decide +kernel
theorem d_Model_steps_377 : decode b_Model_steps 377 = .ok (.iload 7, 2) := by decide +kernel
theorem d_Model_steps_379 : decode b_Model_steps 379 = .ok (.iload 8, 2) := by decide +kernel
theorem d_Model_steps_381 : decode b_Model_steps 381 = .ok (.invokevirtual 819, 3) := by decide +kernel
theorem d_Model_steps_384 : decode b_Model_steps 384 = .ok (.ldc2_w 7, 3) := by decide +kernel
theorem d_Model_steps_387 : decode b_Model_steps 387 = .ok (.lreturn, 1) := by decide +kernel
theorem lk_Model_835 : Cond.methodLink "TurtleWorldModel" 835 ⟨"TurtleWorldModel", "isBeyond", "(I)Z"⟩ ∈ tw_T := tw_i11 16 (by decide +kernel) (by decide +kernel)
theorem hd_Model_isBeyond : y_Model_isBeyond.cls ≠ "java/lang/invoke/MethodHandle" ∧ y_Model_isBeyond.cls ≠ "java/lang/invoke/VarHandle" ∧ (parseMethodDescriptor y_Model_isBeyond.desc).map (fun d => d.parameters.length) = some 1 := by decide +kernel
theorem st_Model_isBeyond : Cond.static ⟨"TurtleWorldModel", "isBeyond", "(I)Z"⟩ ∈ tw_T := tw_i11 17 (by decide +kernel) (by decide +kernel)
theorem lk_Model_819 : Cond.methodLink "TurtleWorldModel" 819 ⟨"TurtleWorldModel", "set", "(IIIII)V"⟩ ∈ tw_T := tw_i11 44 (by decide +kernel) (by decide +kernel)
theorem hd_Model_set : y_Model_set.cls ≠ "java/lang/invoke/MethodHandle" ∧ y_Model_set.cls ≠ "java/lang/invoke/VarHandle" ∧ (parseMethodDescriptor y_Model_set.desc).map (fun d => d.parameters.length) = some 5 := by decide +kernel
theorem in_Model_set : Cond.instanceMethod ⟨"TurtleWorldModel", "set", "(IIIII)V"⟩ ∈ tw_T := tw_i11 46 (by decide +kernel) (by decide +kernel)
theorem sel_Model_set : Cond.selects "TurtleWorldModel" ⟨"TurtleWorldModel", "set", "(IIIII)V"⟩ ⟨"TurtleWorldModel", "set", "(IIIII)V"⟩ ∈ tw_T := tw_inS 135 (by decide +kernel) (by decide +kernel)
theorem lk_Model_838 : Cond.methodLink "TurtleWorldModel" 838 ⟨"TurtleWorldModel", "draws", "(IIIIIIIIIIZ)V"⟩ ∈ tw_T := tw_i11 21 (by decide +kernel) (by decide +kernel)
theorem hd_Model_draws : y_Model_draws.cls ≠ "java/lang/invoke/MethodHandle" ∧ y_Model_draws.cls ≠ "java/lang/invoke/VarHandle" ∧ (parseMethodDescriptor y_Model_draws.desc).map (fun d => d.parameters.length) = some 11 := by decide +kernel
theorem in_Model_draws : Cond.instanceMethod ⟨"TurtleWorldModel", "draws", "(IIIIIIIIIIZ)V"⟩ ∈ tw_T := tw_i11 23 (by decide +kernel) (by decide +kernel)
theorem sel_Model_draws : Cond.selects "TurtleWorldModel" ⟨"TurtleWorldModel", "draws", "(IIIIIIIIIIZ)V"⟩ ⟨"TurtleWorldModel", "draws", "(IIIIIIIIIIZ)V"⟩ ∈ tw_T := tw_inS 134 (by decide +kernel) (by decide +kernel)
def m_Model_tell (n : Nat) (i : Nat → Int32) (j : Nat → Int64) (a : Nat → Nat → Int32) (b : Nat → Nat → Int64) (v1 : Int32) : Option ((Nat → Int32) × (Nat → Int64) × (Nat → Nat → Int32) × (Nat → Nat → Int64) × Int32) := ob0 (m_Model_procedureOf n i j a b v1) (fun r_2 => if r_2 = ((-1 : Int32)) then ob1 (i 33 : Int32) (fun x_4 => ob1 ((i 33) + 1 : Int32) (fun x_5 => ob1 (upd i 33 x_5 : Nat → Int32) (fun i_6 => ck x_4 40 (ob1 (sv a 29 x_4.toNatClampNeg v1 : Nat → Nat → Int32) (fun a_8 => some (i_6, j, a_8, b, x_4)))))) else some (i, j, a, b, r_2))
set_option maxHeartbeats 4000000 in
set_option maxRecDepth 100000 in
theorem x_Model_tell (l : Launch) (dC : Nat → ClassId) (dI : Nat → Nat → Nat) (cI cJ cB : ClassId) (adK adV adA : Nat → Nat) (h : Nat) (v : Nat → Nat) (sz : Nat) (n : Nat) {i : Nat → Int32} {j : Nat → Int64} {a : Nat → Nat → Int32} {b : Nat → Nat → Int64} {v1 : Int32} {i2 : Nat → Int32} {j2 : Nat → Int64} {a2 : Nat → Nat → Int32} {b2 : Nat → Nat → Int64} {r2 : Int32} (hm : m_Model_tell n i j a b v1 = some (i2, j2, a2, b2, r2)) : Met l y_Model_tell w_Model_tell ({ frames := 3, cells := 0, slots := 0, locals := 69 } : Room) (va_Pc [.ref h, .int v1] (yE dC dI cI cJ cB adK adV adA h v i j a b sz)) (va_Qi (xR r2) (yB dC dI cI cJ cB h v i2 j2 a2 b2 (va_A (MW cI cJ cB h v i j a b) sz)) (va_A (MW cI cJ cB h v i j a b) sz)) 0 0 ((va_A (MW cI cJ cB h v i j a b) sz)) := by
  refine Met.ofW (cc := b_Model_tell) (maxL := 3) (ret := (some .int)) (by decide) rfl ?_
  intro p e s m args below meth c s₁ B hml hv
  obtain ⟨rfl, hsz, hP, hK, hE, hD0⟩ := hv
  have hx := B.exec
  have hb := B.bytes
  have hr := B.returns
  have hts := atoms_spec (ws := w_Model_tell) B.pre
  have htt : ∀ w ∈ tw_T, w.before _ s = true := fun w h => hts w (List.mem_cons_of_mem _ h)
  have hown : s.vm.findClass R_Model = some m.cls := findClass_of_methodNamed B.named
  have hlocks := B.notSynchronized
  subst hsz
  have hD := hD0.self (sz := s.heap.size)
  generalize hAe : (va_A (MW cI cJ cB h v i j a b) s.heap.size) = A at hD hE ⊢
  have hA : ∀ q : Nat, s.heap.size ≤ q → A q := fun q h => by rw [← hAe]; exact Or.inr h
  have hS : va_S A s.heap s.heap [] := va_S.rf
  have hl := lv_entry ([.ref h, .int v1]) (n := 3) (Nat.le_of_ble_eq_true rfl)
  rw [lg_entry_eq]
  generalize (lg_sl ([.ref h, .int v1]) ++ List.replicate (3 - (lg_sl ([.ref h, .int v1])).length) Slot.unset).toArray = ls at hl ⊢
  have hl : lv_has ls 3 [(0, .ref h), (1, .int v1)] := hl
  rw [m_Model_tell] at hm
  refine lv_aload_n hx hb d_Model_tell_0 rfl (lv_at hl 0 rfl) ?_
  refine lv_iload_n hx hb d_Model_tell_1 rfl (lv_at hl 1 rfl) ?_
  obtain ⟨r_2, h_1, hm⟩ := ob0_some hm
  have hFc := x_free0 hS hA
  refine va_calli (va_runV (As := [.int v1]) (rest := []) ⟨hx, hb, hml, hown, hts⟩ (x_Model_procedureOf l dC dI cI cJ cB adK adV adA h v s.heap.size n h_1) (cwV 1 hts (tw_GV tw_cons cw_Model_procedureOf lk_Model_488 in_Model_procedureOf sel_Model_procedureOf ini_Model) rfl rfl rfl ⟨rfl, hd_Model_procedureOf⟩ ⟨Nat.le_of_ble_eq_true rfl, Nat.le_of_ble_eq_true rfl⟩) (ypVr hK hP hS hE hFc yo_12 rfl) rfl rfl hl.1 rfl (lv_room (Nat.le_of_ble_eq_true rfl)) d_Model_tell_2 ⟨Nat.le_of_ble_eq_true rfl, Nat.le_of_ble_eq_true rfl⟩) hS (fun q _ h => hFc q h) hFc (fun r9 u9 t9 H locs ht hvm e9 hB hz1 hk1 hS => ?_)
  have e9 : r_2 = r9 := e9
  subst e9
  replace hP := x_keep hP hk1
  clear hFc hk1 hz1 hvm hB ht
  refine lv_istore_n (lv' := [(2, .int r_2), (0, .ref h), (1, .int v1)]) hx hb d_Model_tell_5 rfl hl (by decide) rfl (fun ls hl => ?_)
  refine lv_iload_n hx hb d_Model_tell_6 rfl (lv_at hl 0 rfl) ?_
  refine lv_iconst (v := -1) hx hb d_Model_tell_7 (by decide) ?_
  refine lv_icmp_ne (tgt := 33) hx hb d_Model_tell_8 (by decide) (fun c_3 => ?_) (fun c_3 => ?_)
  · replace hm := if_f c_3 hm
    refine lv_iload_n hx hb d_Model_tell_33 rfl (lv_at hl 0 rfl) ?_
    obtain ⟨e1i, e1j, e1a, e1b, e3⟩ := re4m hm
    obtain ⟨hP, hD⟩ := y_eq e1i e1j e1a e1b hP hD
    exact W.iret hx hb hr (fun t9 ht hW => ⟨⟨_, (), rfl, e3.symm, by rw [ht]; exact hP, hD⟩, hS.F ht⟩) hS.2.2 d_Model_tell_34
  · replace hm := if_t c_3 hm
    refine lv_aload_n hx hb d_Model_tell_11 rfl (lv_at hl 1 rfl) ?_
    refine va_get (D := (dC, dI)) (ci := 12) (v := .int (i 33)) (C := R_Model) (T := F_Model) (N := 127) hx hb htt iw_Model hown hK hP 0 yo_12 rfl 33 (Nat.le_of_ble_eq_true rfl) (htt _ lk_Model_344) (fun _ h9 => h9) yg_33 d_Model_tell_12 ?_
    refine lv_topi (fun x_4 ex_4 => ?_)
    replace hm := ob1_at ex_4 hm
    refine lv_istore_n (lv' := [(2, .int x_4), (0, .ref h), (1, .int v1)]) hx hb d_Model_tell_15 rfl hl (by decide) rfl (fun ls hl => ?_)
    refine lv_aload_n hx hb d_Model_tell_16 rfl (lv_at hl 1 rfl) ?_
    refine lv_dup hx hb d_Model_tell_17 rfl ?_
    refine va_get (D := (dC, dI)) (ci := 12) (v := .int (i 33)) (C := R_Model) (T := F_Model) (N := 127) hx hb htt iw_Model hown hK hP 0 yo_12 rfl 33 (Nat.le_of_ble_eq_true rfl) (htt _ lk_Model_344) (fun _ h9 => h9) yg_33 d_Model_tell_18 ?_
    refine lv_iconst (v := 1) hx hb d_Model_tell_21 (by decide) ?_
    refine lv_iadd hx hb d_Model_tell_22 ?_
    refine lv_topi (fun x_5 ex_5 => ?_)
    replace hm := ob1_at ex_5 hm
    refine va_put (D := (dC, dI)) (ci := 12) (v := .int x_5) (ty := .int) (C := R_Model) (T := F_Model) (N := 127) hx hb htt iw_Model t_Model t_Model_ok n_Model hown hK hP hD hS 0 yo_12 rfl 33 (Nat.le_of_ble_eq_true rfl) (htt _ lk_Model_344) (fun _ h9 => h9) rfl (by decide +kernel) rfl rfl yl_33 d_Model_tell_23 (fun H locs hP hD hS => ?_)
    obtain ⟨i_6, ei_6⟩ : ∃ y9 : Nat → Int32, y9 = upd i 33 x_5 := ⟨_, rfl⟩
    replace hm := ob1_at ei_6 hm
    obtain ⟨hP, hD⟩ := yw_33 ei_6 hP hD
    refine lv_aload_n hx hb d_Model_tell_26 rfl (lv_at hl 1 rfl) ?_
    refine va_get (D := (dC, dI)) (ci := 12) (v := .ref ((v 29))) (C := R_Model) (T := F_Model) (N := 127) hx hb htt iw_Model hown hK hP 0 yo_12 rfl 29 (Nat.le_of_ble_eq_true rfl) (htt _ lk_Model_183) (fun _ h9 => h9) yg_29 d_Model_tell_27 ?_
    refine lv_iload_n hx hb d_Model_tell_30 rfl (lv_at hl 0 rfl) ?_
    refine lv_iload_n hx hb d_Model_tell_31 rfl (lv_at hl 2 rfl) ?_
    obtain ⟨h_7, hm⟩ := ck_some hm
    refine va_iast hx hb hK hP hD hS 23 0 ya_29 rfl h_7 d_Model_tell_32 (fun H locs hP hD hS => ?_)
    obtain ⟨a_8, ea_8⟩ : ∃ y9 : Nat → Nat → Int32, y9 = sv a 29 x_4.toNatClampNeg v1 := ⟨_, rfl⟩
    replace hm := ob1_at ea_8 hm
    obtain ⟨hP, hD⟩ := yv_29 ea_8 hP hD
    refine lv_iload_n hx hb d_Model_tell_33 rfl (lv_at hl 0 rfl) ?_
    obtain ⟨e1i, e1j, e1a, e1b, e3⟩ := re4m hm
    obtain ⟨hP, hD⟩ := y_eq e1i e1j e1a e1b hP hD
    exact W.iret hx hb hr (fun t9 ht hW => ⟨⟨_, (), rfl, e3.symm, by rw [ht]; exact hP, hD⟩, hS.F ht⟩) hS.2.2 d_Model_tell_34

def m_Model_newList_b9 (n : Nat) : Nat → (Nat → Int32) → (Nat → Int64) → (Nat → Nat → Int32) → (Nat → Nat → Int64) → Int32 → Int32 → Int32 → Option ((Nat → Int32) × (Nat → Int64) × (Nat → Nat → Int32) × (Nat → Nat → Int64) × Int64)
  | 0, _, _, _, _, _, _, _ => none
  | f + 1, i, j, a, b, v1, v2, v3 => if ((i 20)) ≤ v3 then ck ((i 21)) 90000 (ob1 (sv a 12 (i 21).toNatClampNeg ((i 20) - v1) : Nat → Nat → Int32) (fun a_3 => ck ((i 21)) 90000 (ob1 (sv a_3 13 (i 21).toNatClampNeg v1 : Nat → Nat → Int32) (fun a_5 => ck ((i 21)) 90000 (ob1 (sv a_5 14 (i 21).toNatClampNeg v2 : Nat → Nat → Int32) (fun a_7 => ob1 ((i 21) + 1 : Int32) (fun x_8 => ob1 (upd i 21 x_8 : Nat → Int32) (fun i_9 => ob0 (m_Model_listValue n ((i_9 21) - 1)) (fun r_11 => some (i_9, j, a_7, b, r_11)))))))))) else ck v3 90000 (ob0 (m_Model_sizeOf n i j a b (b 10 v3.toNatClampNeg)) (fun r_14 => ob1 (v2 + r_14 : Int32) (fun x_15 => ob1 (v3 + 1 : Int32) (fun x_16 => m_Model_newList_b9 n f i j a b v1 x_15 x_16))))
set_option maxHeartbeats 4000000 in
set_option maxRecDepth 100000 in
theorem lb_Model_newList_9 (l : Launch) (dC : Nat → ClassId) (dI : Nat → Nat → Nat) (cI cJ cB : ClassId) (adK adV adA : Nat → Nat) (h : Nat) (v : Nat → Nat) (n : Nat) {p : Program} {e : Env} {s : State} {m : MethodId} {args : Array Value} {below : List Frame} {meth : Method} {c : Code} {A : Nat → Prop} (hx : p.tables.exec = Jvm.exec) (hb : c.code = b_Model_newList) (hml : c.maxLocals = 4) (hown : s.vm.findClass R_Model = some m.cls) (hts : ∀ w ∈ w_Model_newList, w.before args s = true) (hK : va_K (dC, dI) classes [(cI, .int), (cJ, .long), (cB, .byte)] s) (hE : tw_E adK adV adA A s s.heap) (hA : ∀ q : Nat, s.heap.size ≤ q → A q) (hr : meth.sig.returnType = (some .long)) (hlocks : meth.locks = false) {i2 : Nat → Int32} {j2 : Nat → Int64} {a2 : Nat → Nat → Int32} {b2 : Nat → Nat → Int64} {r2 : Int64} : ∀ (f : Nat) (i : Nat → Int32) (j : Nat → Int64) (a : Nat → Nat → Int32) (b : Nat → Nat → Int64) (v1 : Int32) (v2 : Int32) (v3 : Int32), m_Model_newList_b9 n f i j a b v1 v2 v3 = some (i2, j2, a2, b2, r2) → ∀ (H : Heap) (locs : List Loc) (ls : Array Slot), va_P (dC, dI) classes (MW cI cJ cB h v i j a b) H → va_D A (MW cI cJ cB h v i j a b) → va_S A s.heap H locs → lv_has ls 4 [(0, .ref h), (1, .int v1), (2, .int v2), (3, .int v3)] → W p l e ({ frames := 3, cells := 0, slots := 0, locals := 64 } : Room) s m args below meth c H locs 0 0 (MQ below (va_Ql (xR r2) (yB dC dI cI cJ cB h v i2 j2 a2 b2 A) A) args s 0 0 A) (F0 m 9 ls []) := by
  have htt : ∀ w ∈ tw_T, w.before _ s = true := fun w h => hts w (List.mem_cons_of_mem _ h)
  intro f
  induction f with
  | zero =>
    intro i j a b v1 v2 v3 hm
    rw [m_Model_newList_b9] at hm
    cases hm
  | succ f ih =>
    intro i j a b v1 v2 v3 hm H locs ls hP hD hS hl
    rw [m_Model_newList_b9] at hm
    refine lv_iload_n hx hb d_Model_newList_9 rfl (lv_at hl 3 rfl) ?_
    refine lv_aload_n hx hb d_Model_newList_10 rfl (lv_at hl 0 rfl) ?_
    refine va_get (D := (dC, dI)) (ci := 12) (v := .int (i 20)) (C := R_Model) (T := F_Model) (N := 127) hx hb htt iw_Model hown hK hP 0 yo_12 rfl 20 (Nat.le_of_ble_eq_true rfl) (htt _ lk_Model_32) (fun _ h9 => h9) yg_20 d_Model_newList_11 ?_
    refine lv_icmp_ge (tgt := 36) hx hb d_Model_newList_14 (by decide) (fun c_1 => ?_) (fun c_1 => ?_)
    · replace hm := if_t c_1 hm
      refine lv_aload_n hx hb d_Model_newList_36 rfl (lv_at hl 0 rfl) ?_
      refine va_get (D := (dC, dI)) (ci := 12) (v := .ref ((v 12))) (C := R_Model) (T := F_Model) (N := 127) hx hb htt iw_Model hown hK hP 0 yo_12 rfl 12 (Nat.le_of_ble_eq_true rfl) (htt _ lk_Model_41) (fun _ h9 => h9) yg_12 d_Model_newList_37 ?_
      refine lv_aload_n hx hb d_Model_newList_40 rfl (lv_at hl 0 rfl) ?_
      refine va_get (D := (dC, dI)) (ci := 12) (v := .int (i 21)) (C := R_Model) (T := F_Model) (N := 127) hx hb htt iw_Model hown hK hP 0 yo_12 rfl 21 (Nat.le_of_ble_eq_true rfl) (htt _ lk_Model_44) (fun _ h9 => h9) yg_21 d_Model_newList_41 ?_
      refine lv_aload_n hx hb d_Model_newList_44 rfl (lv_at hl 0 rfl) ?_
      refine va_get (D := (dC, dI)) (ci := 12) (v := .int (i 20)) (C := R_Model) (T := F_Model) (N := 127) hx hb htt iw_Model hown hK hP 0 yo_12 rfl 20 (Nat.le_of_ble_eq_true rfl) (htt _ lk_Model_32) (fun _ h9 => h9) yg_20 d_Model_newList_45 ?_
      refine lv_iload_n hx hb d_Model_newList_48 rfl (lv_at hl 1 rfl) ?_
      refine lv_isub hx hb d_Model_newList_49 ?_
      obtain ⟨h_2, hm⟩ := ck_some hm
      refine va_iast hx hb hK hP hD hS 12 0 ya_12 rfl h_2 d_Model_newList_50 (fun H locs hP hD hS => ?_)
      obtain ⟨a_3, ea_3⟩ : ∃ y9 : Nat → Nat → Int32, y9 = sv a 12 (i 21).toNatClampNeg ((i 20) - v1) := ⟨_, rfl⟩
      replace hm := ob1_at ea_3 hm
      obtain ⟨hP, hD⟩ := yv_12 ea_3 hP hD
      refine lv_aload_n hx hb d_Model_newList_51 rfl (lv_at hl 0 rfl) ?_
      refine va_get (D := (dC, dI)) (ci := 12) (v := .ref ((v 13))) (C := R_Model) (T := F_Model) (N := 127) hx hb htt iw_Model hown hK hP 0 yo_12 rfl 13 (Nat.le_of_ble_eq_true rfl) (htt _ lk_Model_47) (fun _ h9 => h9) yg_13 d_Model_newList_52 ?_
      refine lv_aload_n hx hb d_Model_newList_55 rfl (lv_at hl 0 rfl) ?_
      refine va_get (D := (dC, dI)) (ci := 12) (v := .int (i 21)) (C := R_Model) (T := F_Model) (N := 127) hx hb htt iw_Model hown hK hP 0 yo_12 rfl 21 (Nat.le_of_ble_eq_true rfl) (htt _ lk_Model_44) (fun _ h9 => h9) yg_21 d_Model_newList_56 ?_
      refine lv_iload_n hx hb d_Model_newList_59 rfl (lv_at hl 1 rfl) ?_
      obtain ⟨h_4, hm⟩ := ck_some hm
      refine va_iast hx hb hK hP hD hS 13 0 ya_13 rfl h_4 d_Model_newList_60 (fun H locs hP hD hS => ?_)
      obtain ⟨a_5, ea_5⟩ : ∃ y9 : Nat → Nat → Int32, y9 = sv a_3 13 (i 21).toNatClampNeg v1 := ⟨_, rfl⟩
      replace hm := ob1_at ea_5 hm
      obtain ⟨hP, hD⟩ := yv_13 ea_5 hP hD
      refine lv_aload_n hx hb d_Model_newList_61 rfl (lv_at hl 0 rfl) ?_
      refine va_get (D := (dC, dI)) (ci := 12) (v := .ref ((v 14))) (C := R_Model) (T := F_Model) (N := 127) hx hb htt iw_Model hown hK hP 0 yo_12 rfl 14 (Nat.le_of_ble_eq_true rfl) (htt _ lk_Model_50) (fun _ h9 => h9) yg_14 d_Model_newList_62 ?_
      refine lv_aload_n hx hb d_Model_newList_65 rfl (lv_at hl 0 rfl) ?_
      refine va_get (D := (dC, dI)) (ci := 12) (v := .int (i 21)) (C := R_Model) (T := F_Model) (N := 127) hx hb htt iw_Model hown hK hP 0 yo_12 rfl 21 (Nat.le_of_ble_eq_true rfl) (htt _ lk_Model_44) (fun _ h9 => h9) yg_21 d_Model_newList_66 ?_
      refine lv_iload_n hx hb d_Model_newList_69 rfl (lv_at hl 2 rfl) ?_
      obtain ⟨h_6, hm⟩ := ck_some hm
      refine va_iast hx hb hK hP hD hS 14 0 ya_14 rfl h_6 d_Model_newList_70 (fun H locs hP hD hS => ?_)
      obtain ⟨a_7, ea_7⟩ : ∃ y9 : Nat → Nat → Int32, y9 = sv a_5 14 (i 21).toNatClampNeg v2 := ⟨_, rfl⟩
      replace hm := ob1_at ea_7 hm
      obtain ⟨hP, hD⟩ := yv_14 ea_7 hP hD
      refine lv_aload_n hx hb d_Model_newList_71 rfl (lv_at hl 0 rfl) ?_
      refine lv_dup hx hb d_Model_newList_72 rfl ?_
      refine va_get (D := (dC, dI)) (ci := 12) (v := .int (i 21)) (C := R_Model) (T := F_Model) (N := 127) hx hb htt iw_Model hown hK hP 0 yo_12 rfl 21 (Nat.le_of_ble_eq_true rfl) (htt _ lk_Model_44) (fun _ h9 => h9) yg_21 d_Model_newList_73 ?_
      refine lv_iconst (v := 1) hx hb d_Model_newList_76 (by decide) ?_
      refine lv_iadd hx hb d_Model_newList_77 ?_
      refine lv_topi (fun x_8 ex_8 => ?_)
      replace hm := ob1_at ex_8 hm
      refine va_put (D := (dC, dI)) (ci := 12) (v := .int x_8) (ty := .int) (C := R_Model) (T := F_Model) (N := 127) hx hb htt iw_Model t_Model t_Model_ok n_Model hown hK hP hD hS 0 yo_12 rfl 21 (Nat.le_of_ble_eq_true rfl) (htt _ lk_Model_44) (fun _ h9 => h9) rfl (by decide +kernel) rfl rfl yl_21 d_Model_newList_78 (fun H locs hP hD hS => ?_)
      obtain ⟨i_9, ei_9⟩ : ∃ y9 : Nat → Int32, y9 = upd i 21 x_8 := ⟨_, rfl⟩
      replace hm := ob1_at ei_9 hm
      obtain ⟨hP, hD⟩ := yw_21 ei_9 hP hD
      refine lv_aload_n hx hb d_Model_newList_81 rfl (lv_at hl 0 rfl) ?_
      refine va_get (D := (dC, dI)) (ci := 12) (v := .int (i_9 21)) (C := R_Model) (T := F_Model) (N := 127) hx hb htt iw_Model hown hK hP 0 yo_12 rfl 21 (Nat.le_of_ble_eq_true rfl) (htt _ lk_Model_44) (fun _ h9 => h9) yg_21 d_Model_newList_82 ?_
      refine lv_iconst (v := 1) hx hb d_Model_newList_85 (by decide) ?_
      refine lv_isub hx hb d_Model_newList_86 ?_
      obtain ⟨r_11, h_10, hm⟩ := ob0_some hm
      have hFc := x_free0 hS hA
      refine va_calll (va_runS (As := [.int ((i_9 21) - 1)]) (rest := []) ⟨hx, hb, hml, hown, hts⟩ (x_Model_listValue l H.size n h_10) (va_cwS 1 hts (tw_GS tw_cons cw_Model_listValue lk_Model_53 st_Model_listValue ini_Model) rfl rfl rfl hd_Model_listValue ⟨Nat.le_of_ble_eq_true rfl, Nat.le_of_ble_eq_true rfl⟩) xpS0 rfl rfl hl.1 rfl (lv_room (Nat.le_of_ble_eq_true rfl)) d_Model_newList_87 ⟨Nat.le_of_ble_eq_true rfl, Nat.le_of_ble_eq_true rfl⟩) hS (fun q _ h => hFc q h) hFc (fun r9 u9 t9 H locs ht hvm e9 hB hz1 hk1 hS => ?_)
      have e9 : r_11 = r9 := e9
      subst e9
      replace hP := x_keep hP hk1
      clear hFc hk1 hz1 hvm hB ht
      obtain ⟨e1i, e1j, e1a, e1b, e3⟩ := re4m hm
      obtain ⟨hP, hD⟩ := y_eq e1i e1j e1a e1b hP hD
      exact W.lret hx hb hr (fun t9 ht hW => ⟨⟨_, (), rfl, e3.symm, by rw [ht]; exact hP, hD⟩, hS.F ht⟩) hS.2.2 d_Model_newList_90
    · replace hm := if_f c_1 hm
      refine lv_iload_n hx hb d_Model_newList_17 rfl (lv_at hl 2 rfl) ?_
      refine lv_aload_n hx hb d_Model_newList_18 rfl (lv_at hl 0 rfl) ?_
      refine lv_aload_n hx hb d_Model_newList_19 rfl (lv_at hl 0 rfl) ?_
      refine va_get (D := (dC, dI)) (ci := 12) (v := .ref ((v 10))) (C := R_Model) (T := F_Model) (N := 127) hx hb htt iw_Model hown hK hP 0 yo_12 rfl 10 (Nat.le_of_ble_eq_true rfl) (htt _ lk_Model_35) (fun _ h9 => h9) yg_10 d_Model_newList_20 ?_
      refine lv_iload_n hx hb d_Model_newList_23 rfl (lv_at hl 3 rfl) ?_
      obtain ⟨h_12, hm⟩ := ck_some hm
      refine va_lald hx hb hK hP 10 1 ya_10 rfl h_12 d_Model_newList_24 ?_
      obtain ⟨r_14, h_13, hm⟩ := ob0_some hm
      have hFc := x_free0 hS hA
      refine va_calli (va_runV (As := [.long (b 10 v3.toNatClampNeg)]) (rest := [.int v2]) ⟨hx, hb, hml, hown, hts⟩ (x_Model_sizeOf l dC dI cI cJ cB adK adV adA h v H.size n h_13) (cwV 1 hts (tw_GV tw_cons cw_Model_sizeOf lk_Model_38 in_Model_sizeOf sel_Model_sizeOf ini_Model) rfl rfl rfl ⟨rfl, hd_Model_sizeOf⟩ ⟨Nat.le_of_ble_eq_true rfl, Nat.le_of_ble_eq_true rfl⟩) (ypVr hK hP hS hE hFc yo_12 rfl) rfl rfl hl.1 rfl (lv_room (Nat.le_of_ble_eq_true rfl)) d_Model_newList_25 ⟨Nat.le_of_ble_eq_true rfl, Nat.le_of_ble_eq_true rfl⟩) hS (fun q _ h => hFc q h) hFc (fun r9 u9 t9 H locs ht hvm e9 hB hz1 hk1 hS => ?_)
      have e9 : r_14 = r9 := e9
      subst e9
      replace hP := x_keep hP hk1
      clear hFc hk1 hz1 hvm hB ht
      refine lv_iadd hx hb d_Model_newList_28 ?_
      refine lv_topi (fun x_15 ex_15 => ?_)
      replace hm := ob1_at ex_15 hm
      refine lv_istore_n (lv' := [(2, .int x_15), (0, .ref h), (1, .int v1), (3, .int v3)]) hx hb d_Model_newList_29 rfl hl (by decide) rfl (fun ls hl => ?_)
      obtain ⟨x_16, ex_16⟩ : ∃ y9 : Int32, y9 = v3 + 1 := ⟨_, rfl⟩
      replace hm := ob1_at ex_16 hm
      refine lv_iinc (v := x_16) (lv' := [(3, .int x_16), (2, .int x_15), (0, .ref h), (1, .int v1)]) hx hb d_Model_newList_30 hl (k := 3) rfl (by rw [ex_16]; rfl) (by decide) rfl (fun ls hl => ?_)
      refine lv_goto (tgt := 9) hx hb d_Model_newList_33 (by decide) ?_
      exact ih _ _ _ _ _ _ _ hm _ _ _ hP hD hS (lv_sub hl [2, 3, 1, 0] rfl)
def m_Model_newList (n : Nat) (i : Nat → Int32) (j : Nat → Int64) (a : Nat → Nat → Int32) (b : Nat → Nat → Int64) (v1 : Int32) : Option ((Nat → Int32) × (Nat → Int64) × (Nat → Nat → Int32) × (Nat → Nat → Int64) × Int64) := ob1 ((i 20) - v1 : Int32) (fun x_1 => m_Model_newList_b9 n n i j a b v1 (1 : Int32) x_1)
set_option maxHeartbeats 4000000 in
set_option maxRecDepth 100000 in
theorem x_Model_newList (l : Launch) (dC : Nat → ClassId) (dI : Nat → Nat → Nat) (cI cJ cB : ClassId) (adK adV adA : Nat → Nat) (h : Nat) (v : Nat → Nat) (sz : Nat) (n : Nat) {i : Nat → Int32} {j : Nat → Int64} {a : Nat → Nat → Int32} {b : Nat → Nat → Int64} {v1 : Int32} {i2 : Nat → Int32} {j2 : Nat → Int64} {a2 : Nat → Nat → Int32} {b2 : Nat → Nat → Int64} {r2 : Int64} (hm : m_Model_newList n i j a b v1 = some (i2, j2, a2, b2, r2)) : Met l y_Model_newList w_Model_newList ({ frames := 3, cells := 0, slots := 0, locals := 64 } : Room) (va_Pc [.ref h, .int v1] (yE dC dI cI cJ cB adK adV adA h v i j a b sz)) (va_Ql (xR r2) (yB dC dI cI cJ cB h v i2 j2 a2 b2 (va_A (MW cI cJ cB h v i j a b) sz)) (va_A (MW cI cJ cB h v i j a b) sz)) 0 0 ((va_A (MW cI cJ cB h v i j a b) sz)) := by
  refine Met.ofW (cc := b_Model_newList) (maxL := 4) (ret := (some .long)) (by decide) rfl ?_
  intro p e s m args below meth c s₁ B hml hv
  obtain ⟨rfl, hsz, hP, hK, hE, hD0⟩ := hv
  have hx := B.exec
  have hb := B.bytes
  have hr := B.returns
  have hts := atoms_spec (ws := w_Model_newList) B.pre
  have htt : ∀ w ∈ tw_T, w.before _ s = true := fun w h => hts w (List.mem_cons_of_mem _ h)
  have hown : s.vm.findClass R_Model = some m.cls := findClass_of_methodNamed B.named
  have hlocks := B.notSynchronized
  subst hsz
  have hD := hD0.self (sz := s.heap.size)
  generalize hAe : (va_A (MW cI cJ cB h v i j a b) s.heap.size) = A at hD hE ⊢
  have hA : ∀ q : Nat, s.heap.size ≤ q → A q := fun q h => by rw [← hAe]; exact Or.inr h
  have hS : va_S A s.heap s.heap [] := va_S.rf
  have hl := lv_entry ([.ref h, .int v1]) (n := 4) (Nat.le_of_ble_eq_true rfl)
  rw [lg_entry_eq]
  generalize (lg_sl ([.ref h, .int v1]) ++ List.replicate (4 - (lg_sl ([.ref h, .int v1])).length) Slot.unset).toArray = ls at hl ⊢
  have hl : lv_has ls 4 [(0, .ref h), (1, .int v1)] := hl
  rw [m_Model_newList] at hm
  refine lv_iconst (v := 1) hx hb d_Model_newList_0 (by decide) ?_
  refine lv_istore_n (lv' := [(2, .int 1), (0, .ref h), (1, .int v1)]) hx hb d_Model_newList_1 rfl hl (by decide) rfl (fun ls hl => ?_)
  refine lv_aload_n hx hb d_Model_newList_2 rfl (lv_at hl 1 rfl) ?_
  refine va_get (D := (dC, dI)) (ci := 12) (v := .int (i 20)) (C := R_Model) (T := F_Model) (N := 127) hx hb htt iw_Model hown hK hP 0 yo_12 rfl 20 (Nat.le_of_ble_eq_true rfl) (htt _ lk_Model_32) (fun _ h9 => h9) yg_20 d_Model_newList_3 ?_
  refine lv_iload_n hx hb d_Model_newList_6 rfl (lv_at hl 2 rfl) ?_
  refine lv_isub hx hb d_Model_newList_7 ?_
  refine lv_topi (fun x_1 ex_1 => ?_)
  replace hm := ob1_at ex_1 hm
  refine lv_istore_n (lv' := [(3, .int x_1), (2, .int 1), (0, .ref h), (1, .int v1)]) hx hb d_Model_newList_8 rfl hl (by decide) rfl (fun ls hl => ?_)
  exact lb_Model_newList_9 l dC dI cI cJ cB adK adV adA h v n hx hb hml hown hts hK hE hA hr hlocks n _ _ _ _ _ _ _ hm _ _ _ hP hD hS (lv_sub hl [2, 3, 1, 0] rfl)

def m_Model_tidy_b528 (n : Nat) : Nat → (Nat → Int32) → (Nat → Int64) → (Nat → Nat → Int32) → (Nat → Nat → Int64) → Int64 → Int32 → Option ((Nat → Int32) × (Nat → Int64) × (Nat → Nat → Int32) × (Nat → Nat → Int64) × Int64)
  | 0, _, _, _, _, _, _ => none
  | f + 1, i, j, a, b, v3, v5 => if ((i 19)) ≤ v5 then some (i, j, a, b, v3) else ck v5 120000 (ob1 (sv a 7 v5.toNatClampNeg 0 : Nat → Nat → Int32) (fun a_3 => ck v5 120000 (ob1 (svl b 9 v5.toNatClampNeg 3 : Nat → Nat → Int64) (fun b_5 => ob1 (v5 + 1 : Int32) (fun x_6 => m_Model_tidy_b528 n f i j a_3 b_5 v3 x_6)))))
set_option maxHeartbeats 4000000 in
set_option maxRecDepth 100000 in
theorem lb_Model_tidy_528 (l : Launch) (dC : Nat → ClassId) (dI : Nat → Nat → Nat) (cI cJ cB : ClassId) (adK adV adA : Nat → Nat) (h : Nat) (v : Nat → Nat) (n : Nat) {p : Program} {e : Env} {s : State} {m : MethodId} {args : Array Value} {below : List Frame} {meth : Method} {c : Code} {A : Nat → Prop} (hx : p.tables.exec = Jvm.exec) (hb : c.code = b_Model_tidy) (hml : c.maxLocals = 8) (hown : s.vm.findClass R_Model = some m.cls) (hts : ∀ w ∈ w_Model_tidy, w.before args s = true) (hK : va_K (dC, dI) classes [(cI, .int), (cJ, .long), (cB, .byte)] s) (hE : tw_E adK adV adA A s s.heap) (hA : ∀ q : Nat, s.heap.size ≤ q → A q) (hr : meth.sig.returnType = (some .long)) (hlocks : meth.locks = false) {i2 : Nat → Int32} {j2 : Nat → Int64} {a2 : Nat → Nat → Int32} {b2 : Nat → Nat → Int64} {r2 : Int64} : ∀ (f : Nat) (i : Nat → Int32) (j : Nat → Int64) (a : Nat → Nat → Int32) (b : Nat → Nat → Int64) (v3 : Int64) (v5 : Int32), m_Model_tidy_b528 n f i j a b v3 v5 = some (i2, j2, a2, b2, r2) → ∀ (H : Heap) (locs : List Loc) (ls : Array Slot), va_P (dC, dI) classes (MW cI cJ cB h v i j a b) H → va_D A (MW cI cJ cB h v i j a b) → va_S A s.heap H locs → lv_has ls 8 [(0, .ref h), (3, .long v3), (5, .int v5)] → W p l e ({ frames := 3, cells := 0, slots := 0, locals := 84 } : Room) s m args below meth c H locs 0 0 (MQ below (va_Ql (xR r2) (yB dC dI cI cJ cB h v i2 j2 a2 b2 A) A) args s 0 0 A) (F0 m 528 ls []) := by
  have htt : ∀ w ∈ tw_T, w.before _ s = true := fun w h => hts w (List.mem_cons_of_mem _ h)
  intro f
  induction f with
  | zero =>
    intro i j a b v3 v5 hm
    rw [m_Model_tidy_b528] at hm
    cases hm
  | succ f ih =>
    intro i j a b v3 v5 hm H locs ls hP hD hS hl
    rw [m_Model_tidy_b528] at hm
    refine lv_iload hx hb d_Model_tidy_528 (lv_at hl 2 rfl) ?_
    refine lv_aload_n hx hb d_Model_tidy_530 rfl (lv_at hl 0 rfl) ?_
    refine va_get (D := (dC, dI)) (ci := 12) (v := .int (i 19)) (C := R_Model) (T := F_Model) (N := 127) hx hb htt iw_Model hown hK hP 0 yo_12 rfl 19 (Nat.le_of_ble_eq_true rfl) (htt _ lk_Model_19) (fun _ h9 => h9) yg_19 d_Model_tidy_531 ?_
    refine lv_icmp_ge (tgt := 561) hx hb d_Model_tidy_534 (by decide) (fun c_1 => ?_) (fun c_1 => ?_)
    · replace hm := if_t c_1 hm
      refine lv_lload_n hx hb d_Model_tidy_561 rfl (lv_at hl 1 rfl) ?_
      obtain ⟨e1i, e1j, e1a, e1b, e3⟩ := re4m hm
      obtain ⟨hP, hD⟩ := y_eq e1i e1j e1a e1b hP hD
      exact W.lret hx hb hr (fun t9 ht hW => ⟨⟨_, (), rfl, e3.symm, by rw [ht]; exact hP, hD⟩, hS.F ht⟩) hS.2.2 d_Model_tidy_562
    · replace hm := if_f c_1 hm
      refine lv_aload_n hx hb d_Model_tidy_537 rfl (lv_at hl 0 rfl) ?_
      refine va_get (D := (dC, dI)) (ci := 12) (v := .ref ((v 7))) (C := R_Model) (T := F_Model) (N := 127) hx hb htt iw_Model hown hK hP 0 yo_12 rfl 7 (Nat.le_of_ble_eq_true rfl) (htt _ lk_Model_25) (fun _ h9 => h9) yg_7 d_Model_tidy_538 ?_
      refine lv_iload hx hb d_Model_tidy_541 (lv_at hl 2 rfl) ?_
      refine lv_iconst (v := 0) hx hb d_Model_tidy_543 (by decide) ?_
      obtain ⟨h_2, hm⟩ := ck_some hm
      refine va_iast hx hb hK hP hD hS 7 0 ya_7 rfl h_2 d_Model_tidy_544 (fun H locs hP hD hS => ?_)
      obtain ⟨a_3, ea_3⟩ : ∃ y9 : Nat → Nat → Int32, y9 = sv a 7 v5.toNatClampNeg 0 := ⟨_, rfl⟩
      replace hm := ob1_at ea_3 hm
      obtain ⟨hP, hD⟩ := yv_7 ea_3 hP hD
      refine lv_aload_n hx hb d_Model_tidy_545 rfl (lv_at hl 0 rfl) ?_
      refine va_get (D := (dC, dI)) (ci := 12) (v := .ref ((v 9))) (C := R_Model) (T := F_Model) (N := 127) hx hb htt iw_Model hown hK hP 0 yo_12 rfl 9 (Nat.le_of_ble_eq_true rfl) (htt _ lk_Model_28) (fun _ h9 => h9) yg_9 d_Model_tidy_546 ?_
      refine lv_iload hx hb d_Model_tidy_549 (lv_at hl 2 rfl) ?_
      refine lv_ldc2 (v := 3) hx hb hown (htt _ lk_Model_7) d_Model_tidy_551 ?_
      obtain ⟨h_4, hm⟩ := ck_some hm
      refine va_last hx hb hK hP hD hS 9 1 ya_9 rfl h_4 d_Model_tidy_554 (fun H locs hP hD hS => ?_)
      obtain ⟨b_5, eb_5⟩ : ∃ y9 : Nat → Nat → Int64, y9 = svl b 9 v5.toNatClampNeg 3 := ⟨_, rfl⟩
      replace hm := ob1_at eb_5 hm
      obtain ⟨hP, hD⟩ := yv_9 eb_5 hP hD
      obtain ⟨x_6, ex_6⟩ : ∃ y9 : Int32, y9 = v5 + 1 := ⟨_, rfl⟩
      replace hm := ob1_at ex_6 hm
      refine lv_iinc (v := x_6) (lv' := [(5, .int x_6), (0, .ref h), (3, .long v3)]) hx hb d_Model_tidy_555 hl (k := 2) rfl (by rw [ex_6]; rfl) (by decide) rfl (fun ls hl => ?_)
      refine lv_goto (tgt := 528) hx hb d_Model_tidy_558 (by decide) ?_
      exact ih _ _ _ _ _ _ hm _ _ _ hP hD hS (lv_sub hl [1, 2, 0] rfl)
def m_Model_tidy_b340 (n : Nat) : Nat → (Nat → Int32) → (Nat → Int64) → (Nat → Nat → Int32) → (Nat → Nat → Int64) → Int64 → Int32 → Option ((Nat → Int32) × (Nat → Int64) × (Nat → Nat → Int32) × (Nat → Nat → Int64) × Int64)
  | 0, _, _, _, _, _, _ => none
  | f + 1, i, j, a, b, v3, v5 => if ((i 70)) ≤ v5 then cy ((0 : Int32)) ((0 : Int32)) (i 70) 90000 90000 (ob1 (updA a 14 (va_cpy (a 72) (a 14) (0 : Int32).toNatClampNeg (0 : Int32).toNatClampNeg (i 70).toNatClampNeg) : Nat → Nat → Int32) (fun a_3 => cy ((0 : Int32)) ((0 : Int32)) (i 70) 90000 90000 (ob1 (updA a_3 12 (va_cpy (a_3 15) (a_3 12) (0 : Int32).toNatClampNeg (0 : Int32).toNatClampNeg (i 70).toNatClampNeg) : Nat → Nat → Int32) (fun a_5 => cy ((0 : Int32)) ((0 : Int32)) (i 70) 90000 90000 (ob1 (updA a_5 13 (va_cpy (a_5 16) (a_5 13) (0 : Int32).toNatClampNeg (0 : Int32).toNatClampNeg (i 70).toNatClampNeg) : Nat → Nat → Int32) (fun a_7 => cy ((0 : Int32)) ((0 : Int32)) (i 69) 90000 90000 (ob1 (updB b 10 (va_cpy (b 11) (b 10) (0 : Int32).toNatClampNeg (0 : Int32).toNatClampNeg (i 69).toNatClampNeg) : Nat → Nat → Int64) (fun b_9 => cy ((0 : Int32)) ((0 : Int32)) (i 67) 120000 120000 (ob1 (updA a_7 3 (va_cpy (a_7 5) (a_7 3) (0 : Int32).toNatClampNeg (0 : Int32).toNatClampNeg (i 67).toNatClampNeg) : Nat → Nat → Int32) (fun a_11 => cy ((0 : Int32)) ((0 : Int32)) (i 67) 120000 120000 (ob1 (updA a_11 4 (va_cpy (a_11 6) (a_11 4) (0 : Int32).toNatClampNeg (0 : Int32).toNatClampNeg (i 67).toNatClampNeg) : Nat → Nat → Int32) (fun a_13 => cy ((0 : Int32)) ((0 : Int32)) (i 68) 300000 300000 (cyb (a_13 2) ((0 : Int32)) (i 68) (ob1 (updA a_13 1 (va_cpy (a_13 2) (a_13 1) (0 : Int32).toNatClampNeg (0 : Int32).toNatClampNeg (i 68).toNatClampNeg) : Nat → Nat → Int32) (fun a_15 => ob1 (i 67 : Int32) (fun x_16 => ob1 (upd i 19 x_16 : Nat → Int32) (fun i_17 => ob1 (i_17 68 : Int32) (fun x_18 => ob1 (upd i_17 18 x_18 : Nat → Int32) (fun i_19 => ob1 (i_19 69 : Int32) (fun x_20 => ob1 (upd i_19 20 x_20 : Nat → Int32) (fun i_21 => ob1 (i_21 70 : Int32) (fun x_22 => ob1 (upd i_21 21 x_22 : Nat → Int32) (fun i_23 => m_Model_tidy_b528 n n i_23 j a_15 b_9 v3 (0 : Int32)))))))))))))))))))))))) else ck v5 90000 (ck ((a 71 v5.toNatClampNeg)) 90000 (ck v5 90000 (ob1 (sv a 72 v5.toNatClampNeg (a 14 (a 71 v5.toNatClampNeg).toNatClampNeg) : Nat → Nat → Int32) (fun a_27 => ob1 (v5 + 1 : Int32) (fun x_28 => m_Model_tidy_b340 n f i j a_27 b v3 x_28)))))
set_option maxHeartbeats 4000000 in
set_option maxRecDepth 100000 in
theorem lb_Model_tidy_340 (l : Launch) (dC : Nat → ClassId) (dI : Nat → Nat → Nat) (cI cJ cB : ClassId) (adK adV adA : Nat → Nat) (h : Nat) (v : Nat → Nat) (n : Nat) {p : Program} {e : Env} {s : State} {m : MethodId} {args : Array Value} {below : List Frame} {meth : Method} {c : Code} {A : Nat → Prop} (hx : p.tables.exec = Jvm.exec) (hb : c.code = b_Model_tidy) (hml : c.maxLocals = 8) (hown : s.vm.findClass R_Model = some m.cls) (hts : ∀ w ∈ w_Model_tidy, w.before args s = true) (hK : va_K (dC, dI) classes [(cI, .int), (cJ, .long), (cB, .byte)] s) (hE : tw_E adK adV adA A s s.heap) (hA : ∀ q : Nat, s.heap.size ≤ q → A q) (hr : meth.sig.returnType = (some .long)) (hlocks : meth.locks = false) {i2 : Nat → Int32} {j2 : Nat → Int64} {a2 : Nat → Nat → Int32} {b2 : Nat → Nat → Int64} {r2 : Int64} : ∀ (f : Nat) (i : Nat → Int32) (j : Nat → Int64) (a : Nat → Nat → Int32) (b : Nat → Nat → Int64) (v3 : Int64) (v5 : Int32), m_Model_tidy_b340 n f i j a b v3 v5 = some (i2, j2, a2, b2, r2) → ∀ (H : Heap) (locs : List Loc) (ls : Array Slot), va_P (dC, dI) classes (MW cI cJ cB h v i j a b) H → va_D A (MW cI cJ cB h v i j a b) → va_S A s.heap H locs → lv_has ls 8 [(0, .ref h), (3, .long v3), (5, .int v5)] → W p l e ({ frames := 3, cells := 0, slots := 0, locals := 84 } : Room) s m args below meth c H locs 0 0 (MQ below (va_Ql (xR r2) (yB dC dI cI cJ cB h v i2 j2 a2 b2 A) A) args s 0 0 A) (F0 m 340 ls []) := by
  have htt : ∀ w ∈ tw_T, w.before _ s = true := fun w h => hts w (List.mem_cons_of_mem _ h)
  intro f
  induction f with
  | zero =>
    intro i j a b v3 v5 hm
    rw [m_Model_tidy_b340] at hm
    cases hm
  | succ f ih =>
    intro i j a b v3 v5 hm H locs ls hP hD hS hl
    rw [m_Model_tidy_b340] at hm
    refine lv_iload hx hb d_Model_tidy_340 (lv_at hl 2 rfl) ?_
    refine lv_aload_n hx hb d_Model_tidy_342 rfl (lv_at hl 0 rfl) ?_
    refine va_get (D := (dC, dI)) (ci := 12) (v := .int (i 70)) (C := R_Model) (T := F_Model) (N := 127) hx hb htt iw_Model hown hK hP 0 yo_12 rfl 70 (Nat.le_of_ble_eq_true rfl) (htt _ lk_Model_399) (fun _ h9 => h9) yg_70 d_Model_tidy_343 ?_
    refine lv_icmp_ge (tgt := 374) hx hb d_Model_tidy_346 (by decide) (fun c_1 => ?_) (fun c_1 => ?_)
    · replace hm := if_t c_1 hm
      refine lv_aload_n hx hb d_Model_tidy_374 rfl (lv_at hl 0 rfl) ?_
      refine va_get (D := (dC, dI)) (ci := 12) (v := .ref ((v 72))) (C := R_Model) (T := F_Model) (N := 127) hx hb htt iw_Model hown hK hP 0 yo_12 rfl 72 (Nat.le_of_ble_eq_true rfl) (htt _ lk_Model_258) (fun _ h9 => h9) yg_72 d_Model_tidy_375 ?_
      refine lv_iconst (v := 0) hx hb d_Model_tidy_378 (by decide) ?_
      refine lv_aload_n hx hb d_Model_tidy_379 rfl (lv_at hl 0 rfl) ?_
      refine va_get (D := (dC, dI)) (ci := 12) (v := .ref ((v 14))) (C := R_Model) (T := F_Model) (N := 127) hx hb htt iw_Model hown hK hP 0 yo_12 rfl 14 (Nat.le_of_ble_eq_true rfl) (htt _ lk_Model_50) (fun _ h9 => h9) yg_14 d_Model_tidy_380 ?_
      refine lv_iconst (v := 0) hx hb d_Model_tidy_383 (by decide) ?_
      refine lv_aload_n hx hb d_Model_tidy_384 rfl (lv_at hl 0 rfl) ?_
      refine va_get (D := (dC, dI)) (ci := 12) (v := .int (i 70)) (C := R_Model) (T := F_Model) (N := 127) hx hb htt iw_Model hown hK hP 0 yo_12 rfl 70 (Nat.le_of_ble_eq_true rfl) (htt _ lk_Model_399) (fun _ h9 => h9) yg_70 d_Model_tidy_385 ?_
      obtain ⟨h_2a, h_2b, h_2c, h_2d, h_2e, hm⟩ := cy_some hm
      refine va_copyi hx hb (by rw [hml]; exact hl.1.symm) hown (htt _ lk_Model_334) (htt _ na_arraycopy) (htt _ st_arraycopy) (htt _ ini_System) hK hP hD hS 48 14 0 0 (ty := .int) ya_72 ya_14 rfl rfl rfl h_2a h_2b h_2c h_2d h_2e (fun _ _ => rfl) (Nat.le_of_ble_eq_true rfl) (Nat.le_of_ble_eq_true rfl) d_Model_tidy_388 (fun H locs hP hD hS => ?_)
      obtain ⟨a_3, ea_3⟩ : ∃ y9 : Nat → Nat → Int32, y9 = updA a 14 (va_cpy (a 72) (a 14) (0 : Int32).toNatClampNeg (0 : Int32).toNatClampNeg (i 70).toNatClampNeg) := ⟨_, rfl⟩
      replace hm := ob1_at ea_3 hm
      obtain ⟨hP, hD⟩ := yv_14 ea_3 hP hD
      refine lv_aload_n hx hb d_Model_tidy_391 rfl (lv_at hl 0 rfl) ?_
      refine va_get (D := (dC, dI)) (ci := 12) (v := .ref ((v 15))) (C := R_Model) (T := F_Model) (N := 127) hx hb htt iw_Model hown hK hP 0 yo_12 rfl 15 (Nat.le_of_ble_eq_true rfl) (htt _ lk_Model_173) (fun _ h9 => h9) yg_15 d_Model_tidy_392 ?_
      refine lv_iconst (v := 0) hx hb d_Model_tidy_395 (by decide) ?_
      refine lv_aload_n hx hb d_Model_tidy_396 rfl (lv_at hl 0 rfl) ?_
      refine va_get (D := (dC, dI)) (ci := 12) (v := .ref ((v 12))) (C := R_Model) (T := F_Model) (N := 127) hx hb htt iw_Model hown hK hP 0 yo_12 rfl 12 (Nat.le_of_ble_eq_true rfl) (htt _ lk_Model_41) (fun _ h9 => h9) yg_12 d_Model_tidy_397 ?_
      refine lv_iconst (v := 0) hx hb d_Model_tidy_400 (by decide) ?_
      refine lv_aload_n hx hb d_Model_tidy_401 rfl (lv_at hl 0 rfl) ?_
      refine va_get (D := (dC, dI)) (ci := 12) (v := .int (i 70)) (C := R_Model) (T := F_Model) (N := 127) hx hb htt iw_Model hown hK hP 0 yo_12 rfl 70 (Nat.le_of_ble_eq_true rfl) (htt _ lk_Model_399) (fun _ h9 => h9) yg_70 d_Model_tidy_402 ?_
      obtain ⟨h_4a, h_4b, h_4c, h_4d, h_4e, hm⟩ := cy_some hm
      refine va_copyi hx hb (by rw [hml]; exact hl.1.symm) hown (htt _ lk_Model_334) (htt _ na_arraycopy) (htt _ st_arraycopy) (htt _ ini_System) hK hP hD hS 15 12 0 0 (ty := .int) ya_15 ya_12 rfl rfl rfl h_4a h_4b h_4c h_4d h_4e (fun _ _ => rfl) (Nat.le_of_ble_eq_true rfl) (Nat.le_of_ble_eq_true rfl) d_Model_tidy_405 (fun H locs hP hD hS => ?_)
      obtain ⟨a_5, ea_5⟩ : ∃ y9 : Nat → Nat → Int32, y9 = updA a_3 12 (va_cpy (a_3 15) (a_3 12) (0 : Int32).toNatClampNeg (0 : Int32).toNatClampNeg (i 70).toNatClampNeg) := ⟨_, rfl⟩
      replace hm := ob1_at ea_5 hm
      obtain ⟨hP, hD⟩ := yv_12 ea_5 hP hD
      refine lv_aload_n hx hb d_Model_tidy_408 rfl (lv_at hl 0 rfl) ?_
      refine va_get (D := (dC, dI)) (ci := 12) (v := .ref ((v 16))) (C := R_Model) (T := F_Model) (N := 127) hx hb htt iw_Model hown hK hP 0 yo_12 rfl 16 (Nat.le_of_ble_eq_true rfl) (htt _ lk_Model_176) (fun _ h9 => h9) yg_16 d_Model_tidy_409 ?_
      refine lv_iconst (v := 0) hx hb d_Model_tidy_412 (by decide) ?_
      refine lv_aload_n hx hb d_Model_tidy_413 rfl (lv_at hl 0 rfl) ?_
      refine va_get (D := (dC, dI)) (ci := 12) (v := .ref ((v 13))) (C := R_Model) (T := F_Model) (N := 127) hx hb htt iw_Model hown hK hP 0 yo_12 rfl 13 (Nat.le_of_ble_eq_true rfl) (htt _ lk_Model_47) (fun _ h9 => h9) yg_13 d_Model_tidy_414 ?_
      refine lv_iconst (v := 0) hx hb d_Model_tidy_417 (by decide) ?_
      refine lv_aload_n hx hb d_Model_tidy_418 rfl (lv_at hl 0 rfl) ?_
      refine va_get (D := (dC, dI)) (ci := 12) (v := .int (i 70)) (C := R_Model) (T := F_Model) (N := 127) hx hb htt iw_Model hown hK hP 0 yo_12 rfl 70 (Nat.le_of_ble_eq_true rfl) (htt _ lk_Model_399) (fun _ h9 => h9) yg_70 d_Model_tidy_419 ?_
      obtain ⟨h_6a, h_6b, h_6c, h_6d, h_6e, hm⟩ := cy_some hm
      refine va_copyi hx hb (by rw [hml]; exact hl.1.symm) hown (htt _ lk_Model_334) (htt _ na_arraycopy) (htt _ st_arraycopy) (htt _ ini_System) hK hP hD hS 16 13 0 0 (ty := .int) ya_16 ya_13 rfl rfl rfl h_6a h_6b h_6c h_6d h_6e (fun _ _ => rfl) (Nat.le_of_ble_eq_true rfl) (Nat.le_of_ble_eq_true rfl) d_Model_tidy_422 (fun H locs hP hD hS => ?_)
      obtain ⟨a_7, ea_7⟩ : ∃ y9 : Nat → Nat → Int32, y9 = updA a_5 13 (va_cpy (a_5 16) (a_5 13) (0 : Int32).toNatClampNeg (0 : Int32).toNatClampNeg (i 70).toNatClampNeg) := ⟨_, rfl⟩
      replace hm := ob1_at ea_7 hm
      obtain ⟨hP, hD⟩ := yv_13 ea_7 hP hD
      refine lv_aload_n hx hb d_Model_tidy_425 rfl (lv_at hl 0 rfl) ?_
      refine va_get (D := (dC, dI)) (ci := 12) (v := .ref ((v 11))) (C := R_Model) (T := F_Model) (N := 127) hx hb htt iw_Model hown hK hP 0 yo_12 rfl 11 (Nat.le_of_ble_eq_true rfl) (htt _ lk_Model_170) (fun _ h9 => h9) yg_11 d_Model_tidy_426 ?_
      refine lv_iconst (v := 0) hx hb d_Model_tidy_429 (by decide) ?_
      refine lv_aload_n hx hb d_Model_tidy_430 rfl (lv_at hl 0 rfl) ?_
      refine va_get (D := (dC, dI)) (ci := 12) (v := .ref ((v 10))) (C := R_Model) (T := F_Model) (N := 127) hx hb htt iw_Model hown hK hP 0 yo_12 rfl 10 (Nat.le_of_ble_eq_true rfl) (htt _ lk_Model_35) (fun _ h9 => h9) yg_10 d_Model_tidy_431 ?_
      refine lv_iconst (v := 0) hx hb d_Model_tidy_434 (by decide) ?_
      refine lv_aload_n hx hb d_Model_tidy_435 rfl (lv_at hl 0 rfl) ?_
      refine va_get (D := (dC, dI)) (ci := 12) (v := .int (i 69)) (C := R_Model) (T := F_Model) (N := 127) hx hb htt iw_Model hown hK hP 0 yo_12 rfl 69 (Nat.le_of_ble_eq_true rfl) (htt _ lk_Model_402) (fun _ h9 => h9) yg_69 d_Model_tidy_436 ?_
      obtain ⟨h_8a, h_8b, h_8c, h_8d, h_8e, hm⟩ := cy_some hm
      refine va_copyl hx hb (by rw [hml]; exact hl.1.symm) hown (htt _ lk_Model_334) (htt _ na_arraycopy) (htt _ st_arraycopy) (htt _ ini_System) hK hP hD hS 11 10 1 1 (ty := .long) ya_11 ya_10 rfl rfl rfl h_8a h_8b h_8c h_8d h_8e (fun _ _ => rfl) (Nat.le_of_ble_eq_true rfl) (Nat.le_of_ble_eq_true rfl) d_Model_tidy_439 (fun H locs hP hD hS => ?_)
      obtain ⟨b_9, eb_9⟩ : ∃ y9 : Nat → Nat → Int64, y9 = updB b 10 (va_cpy (b 11) (b 10) (0 : Int32).toNatClampNeg (0 : Int32).toNatClampNeg (i 69).toNatClampNeg) := ⟨_, rfl⟩
      replace hm := ob1_at eb_9 hm
      obtain ⟨hP, hD⟩ := yv_10 eb_9 hP hD
      refine lv_aload_n hx hb d_Model_tidy_442 rfl (lv_at hl 0 rfl) ?_
      refine va_get (D := (dC, dI)) (ci := 12) (v := .ref ((v 5))) (C := R_Model) (T := F_Model) (N := 127) hx hb htt iw_Model hown hK hP 0 yo_12 rfl 5 (Nat.le_of_ble_eq_true rfl) (htt _ lk_Model_160) (fun _ h9 => h9) yg_5 d_Model_tidy_443 ?_
      refine lv_iconst (v := 0) hx hb d_Model_tidy_446 (by decide) ?_
      refine lv_aload_n hx hb d_Model_tidy_447 rfl (lv_at hl 0 rfl) ?_
      refine va_get (D := (dC, dI)) (ci := 12) (v := .ref ((v 3))) (C := R_Model) (T := F_Model) (N := 127) hx hb htt iw_Model hown hK hP 0 yo_12 rfl 3 (Nat.le_of_ble_eq_true rfl) (htt _ lk_Model_15) (fun _ h9 => h9) yg_3 d_Model_tidy_448 ?_
      refine lv_iconst (v := 0) hx hb d_Model_tidy_451 (by decide) ?_
      refine lv_aload_n hx hb d_Model_tidy_452 rfl (lv_at hl 0 rfl) ?_
      refine va_get (D := (dC, dI)) (ci := 12) (v := .int (i 67)) (C := R_Model) (T := F_Model) (N := 127) hx hb htt iw_Model hown hK hP 0 yo_12 rfl 67 (Nat.le_of_ble_eq_true rfl) (htt _ lk_Model_390) (fun _ h9 => h9) yg_67 d_Model_tidy_453 ?_
      obtain ⟨h_10a, h_10b, h_10c, h_10d, h_10e, hm⟩ := cy_some hm
      refine va_copyi hx hb (by rw [hml]; exact hl.1.symm) hown (htt _ lk_Model_334) (htt _ na_arraycopy) (htt _ st_arraycopy) (htt _ ini_System) hK hP hD hS 5 3 0 0 (ty := .int) ya_5 ya_3 rfl rfl rfl h_10a h_10b h_10c h_10d h_10e (fun _ _ => rfl) (Nat.le_of_ble_eq_true rfl) (Nat.le_of_ble_eq_true rfl) d_Model_tidy_456 (fun H locs hP hD hS => ?_)
      obtain ⟨a_11, ea_11⟩ : ∃ y9 : Nat → Nat → Int32, y9 = updA a_7 3 (va_cpy (a_7 5) (a_7 3) (0 : Int32).toNatClampNeg (0 : Int32).toNatClampNeg (i 67).toNatClampNeg) := ⟨_, rfl⟩
      replace hm := ob1_at ea_11 hm
      obtain ⟨hP, hD⟩ := yv_3 ea_11 hP hD
      refine lv_aload_n hx hb d_Model_tidy_459 rfl (lv_at hl 0 rfl) ?_
      refine va_get (D := (dC, dI)) (ci := 12) (v := .ref ((v 6))) (C := R_Model) (T := F_Model) (N := 127) hx hb htt iw_Model hown hK hP 0 yo_12 rfl 6 (Nat.le_of_ble_eq_true rfl) (htt _ lk_Model_163) (fun _ h9 => h9) yg_6 d_Model_tidy_460 ?_
      refine lv_iconst (v := 0) hx hb d_Model_tidy_463 (by decide) ?_
      refine lv_aload_n hx hb d_Model_tidy_464 rfl (lv_at hl 0 rfl) ?_
      refine va_get (D := (dC, dI)) (ci := 12) (v := .ref ((v 4))) (C := R_Model) (T := F_Model) (N := 127) hx hb htt iw_Model hown hK hP 0 yo_12 rfl 4 (Nat.le_of_ble_eq_true rfl) (htt _ lk_Model_22) (fun _ h9 => h9) yg_4 d_Model_tidy_465 ?_
      refine lv_iconst (v := 0) hx hb d_Model_tidy_468 (by decide) ?_
      refine lv_aload_n hx hb d_Model_tidy_469 rfl (lv_at hl 0 rfl) ?_
      refine va_get (D := (dC, dI)) (ci := 12) (v := .int (i 67)) (C := R_Model) (T := F_Model) (N := 127) hx hb htt iw_Model hown hK hP 0 yo_12 rfl 67 (Nat.le_of_ble_eq_true rfl) (htt _ lk_Model_390) (fun _ h9 => h9) yg_67 d_Model_tidy_470 ?_
      obtain ⟨h_12a, h_12b, h_12c, h_12d, h_12e, hm⟩ := cy_some hm
      refine va_copyi hx hb (by rw [hml]; exact hl.1.symm) hown (htt _ lk_Model_334) (htt _ na_arraycopy) (htt _ st_arraycopy) (htt _ ini_System) hK hP hD hS 6 4 0 0 (ty := .int) ya_6 ya_4 rfl rfl rfl h_12a h_12b h_12c h_12d h_12e (fun _ _ => rfl) (Nat.le_of_ble_eq_true rfl) (Nat.le_of_ble_eq_true rfl) d_Model_tidy_473 (fun H locs hP hD hS => ?_)
      obtain ⟨a_13, ea_13⟩ : ∃ y9 : Nat → Nat → Int32, y9 = updA a_11 4 (va_cpy (a_11 6) (a_11 4) (0 : Int32).toNatClampNeg (0 : Int32).toNatClampNeg (i 67).toNatClampNeg) := ⟨_, rfl⟩
      replace hm := ob1_at ea_13 hm
      obtain ⟨hP, hD⟩ := yv_4 ea_13 hP hD
      refine lv_aload_n hx hb d_Model_tidy_476 rfl (lv_at hl 0 rfl) ?_
      refine va_get (D := (dC, dI)) (ci := 12) (v := .ref ((v 2))) (C := R_Model) (T := F_Model) (N := 127) hx hb htt iw_Model hown hK hP 0 yo_12 rfl 2 (Nat.le_of_ble_eq_true rfl) (htt _ lk_Model_156) (fun _ h9 => h9) yg_2 d_Model_tidy_477 ?_
      refine lv_iconst (v := 0) hx hb d_Model_tidy_480 (by decide) ?_
      refine lv_aload_n hx hb d_Model_tidy_481 rfl (lv_at hl 0 rfl) ?_
      refine va_get (D := (dC, dI)) (ci := 12) (v := .ref ((v 1))) (C := R_Model) (T := F_Model) (N := 127) hx hb htt iw_Model hown hK hP 0 yo_12 rfl 1 (Nat.le_of_ble_eq_true rfl) (htt _ lk_Model_67) (fun _ h9 => h9) yg_1 d_Model_tidy_482 ?_
      refine lv_iconst (v := 0) hx hb d_Model_tidy_485 (by decide) ?_
      refine lv_aload_n hx hb d_Model_tidy_486 rfl (lv_at hl 0 rfl) ?_
      refine va_get (D := (dC, dI)) (ci := 12) (v := .int (i 68)) (C := R_Model) (T := F_Model) (N := 127) hx hb htt iw_Model hown hK hP 0 yo_12 rfl 68 (Nat.le_of_ble_eq_true rfl) (htt _ lk_Model_387) (fun _ h9 => h9) yg_68 d_Model_tidy_487 ?_
      obtain ⟨h_14a, h_14b, h_14c, h_14d, h_14e, hm⟩ := cy_some hm
      obtain ⟨h_14f, hm⟩ := cyb_some hm
      refine va_copyi hx hb (by rw [hml]; exact hl.1.symm) hown (htt _ lk_Model_334) (htt _ na_arraycopy) (htt _ st_arraycopy) (htt _ ini_System) hK hP hD hS 2 1 2 2 (ty := .byte) ya_2 ya_1 rfl rfl rfl h_14a h_14b h_14c h_14d h_14e h_14f (Nat.le_of_ble_eq_true rfl) (Nat.le_of_ble_eq_true rfl) d_Model_tidy_490 (fun H locs hP hD hS => ?_)
      obtain ⟨a_15, ea_15⟩ : ∃ y9 : Nat → Nat → Int32, y9 = updA a_13 1 (va_cpy (a_13 2) (a_13 1) (0 : Int32).toNatClampNeg (0 : Int32).toNatClampNeg (i 68).toNatClampNeg) := ⟨_, rfl⟩
      replace hm := ob1_at ea_15 hm
      obtain ⟨hP, hD⟩ := yv_1 ea_15 hP hD
      refine lv_aload_n hx hb d_Model_tidy_493 rfl (lv_at hl 0 rfl) ?_
      refine lv_aload_n hx hb d_Model_tidy_494 rfl (lv_at hl 0 rfl) ?_
      refine va_get (D := (dC, dI)) (ci := 12) (v := .int (i 67)) (C := R_Model) (T := F_Model) (N := 127) hx hb htt iw_Model hown hK hP 0 yo_12 rfl 67 (Nat.le_of_ble_eq_true rfl) (htt _ lk_Model_390) (fun _ h9 => h9) yg_67 d_Model_tidy_495 ?_
      refine lv_topi (fun x_16 ex_16 => ?_)
      replace hm := ob1_at ex_16 hm
      refine va_put (D := (dC, dI)) (ci := 12) (v := .int x_16) (ty := .int) (C := R_Model) (T := F_Model) (N := 127) hx hb htt iw_Model t_Model t_Model_ok n_Model hown hK hP hD hS 0 yo_12 rfl 19 (Nat.le_of_ble_eq_true rfl) (htt _ lk_Model_19) (fun _ h9 => h9) rfl (by decide +kernel) rfl rfl yl_19 d_Model_tidy_498 (fun H locs hP hD hS => ?_)
      obtain ⟨i_17, ei_17⟩ : ∃ y9 : Nat → Int32, y9 = upd i 19 x_16 := ⟨_, rfl⟩
      replace hm := ob1_at ei_17 hm
      obtain ⟨hP, hD⟩ := yw_19 ei_17 hP hD
      refine lv_aload_n hx hb d_Model_tidy_501 rfl (lv_at hl 0 rfl) ?_
      refine lv_aload_n hx hb d_Model_tidy_502 rfl (lv_at hl 0 rfl) ?_
      refine va_get (D := (dC, dI)) (ci := 12) (v := .int (i_17 68)) (C := R_Model) (T := F_Model) (N := 127) hx hb htt iw_Model hown hK hP 0 yo_12 rfl 68 (Nat.le_of_ble_eq_true rfl) (htt _ lk_Model_387) (fun _ h9 => h9) yg_68 d_Model_tidy_503 ?_
      refine lv_topi (fun x_18 ex_18 => ?_)
      replace hm := ob1_at ex_18 hm
      refine va_put (D := (dC, dI)) (ci := 12) (v := .int x_18) (ty := .int) (C := R_Model) (T := F_Model) (N := 127) hx hb htt iw_Model t_Model t_Model_ok n_Model hown hK hP hD hS 0 yo_12 rfl 18 (Nat.le_of_ble_eq_true rfl) (htt _ lk_Model_372) (fun _ h9 => h9) rfl (by decide +kernel) rfl rfl yl_18 d_Model_tidy_506 (fun H locs hP hD hS => ?_)
      obtain ⟨i_19, ei_19⟩ : ∃ y9 : Nat → Int32, y9 = upd i_17 18 x_18 := ⟨_, rfl⟩
      replace hm := ob1_at ei_19 hm
      obtain ⟨hP, hD⟩ := yw_18 ei_19 hP hD
      refine lv_aload_n hx hb d_Model_tidy_509 rfl (lv_at hl 0 rfl) ?_
      refine lv_aload_n hx hb d_Model_tidy_510 rfl (lv_at hl 0 rfl) ?_
      refine va_get (D := (dC, dI)) (ci := 12) (v := .int (i_19 69)) (C := R_Model) (T := F_Model) (N := 127) hx hb htt iw_Model hown hK hP 0 yo_12 rfl 69 (Nat.le_of_ble_eq_true rfl) (htt _ lk_Model_402) (fun _ h9 => h9) yg_69 d_Model_tidy_511 ?_
      refine lv_topi (fun x_20 ex_20 => ?_)
      replace hm := ob1_at ex_20 hm
      refine va_put (D := (dC, dI)) (ci := 12) (v := .int x_20) (ty := .int) (C := R_Model) (T := F_Model) (N := 127) hx hb htt iw_Model t_Model t_Model_ok n_Model hown hK hP hD hS 0 yo_12 rfl 20 (Nat.le_of_ble_eq_true rfl) (htt _ lk_Model_32) (fun _ h9 => h9) rfl (by decide +kernel) rfl rfl yl_20 d_Model_tidy_514 (fun H locs hP hD hS => ?_)
      obtain ⟨i_21, ei_21⟩ : ∃ y9 : Nat → Int32, y9 = upd i_19 20 x_20 := ⟨_, rfl⟩
      replace hm := ob1_at ei_21 hm
      obtain ⟨hP, hD⟩ := yw_20 ei_21 hP hD
      refine lv_aload_n hx hb d_Model_tidy_517 rfl (lv_at hl 0 rfl) ?_
      refine lv_aload_n hx hb d_Model_tidy_518 rfl (lv_at hl 0 rfl) ?_
      refine va_get (D := (dC, dI)) (ci := 12) (v := .int (i_21 70)) (C := R_Model) (T := F_Model) (N := 127) hx hb htt iw_Model hown hK hP 0 yo_12 rfl 70 (Nat.le_of_ble_eq_true rfl) (htt _ lk_Model_399) (fun _ h9 => h9) yg_70 d_Model_tidy_519 ?_
      refine lv_topi (fun x_22 ex_22 => ?_)
      replace hm := ob1_at ex_22 hm
      refine va_put (D := (dC, dI)) (ci := 12) (v := .int x_22) (ty := .int) (C := R_Model) (T := F_Model) (N := 127) hx hb htt iw_Model t_Model t_Model_ok n_Model hown hK hP hD hS 0 yo_12 rfl 21 (Nat.le_of_ble_eq_true rfl) (htt _ lk_Model_44) (fun _ h9 => h9) rfl (by decide +kernel) rfl rfl yl_21 d_Model_tidy_522 (fun H locs hP hD hS => ?_)
      obtain ⟨i_23, ei_23⟩ : ∃ y9 : Nat → Int32, y9 = upd i_21 21 x_22 := ⟨_, rfl⟩
      replace hm := ob1_at ei_23 hm
      obtain ⟨hP, hD⟩ := yw_21 ei_23 hP hD
      refine lv_iconst (v := 0) hx hb d_Model_tidy_525 (by decide) ?_
      refine lv_istore (lv' := [(5, .int 0), (0, .ref h), (3, .long v3)]) hx hb d_Model_tidy_526 hl (by decide) rfl (fun ls hl => ?_)
      exact lb_Model_tidy_528 l dC dI cI cJ cB adK adV adA h v n hx hb hml hown hts hK hE hA hr hlocks n _ _ _ _ _ _ hm _ _ _ hP hD hS (lv_sub hl [1, 2, 0] rfl)
    · replace hm := if_f c_1 hm
      refine lv_aload_n hx hb d_Model_tidy_349 rfl (lv_at hl 0 rfl) ?_
      refine va_get (D := (dC, dI)) (ci := 12) (v := .ref ((v 72))) (C := R_Model) (T := F_Model) (N := 127) hx hb htt iw_Model hown hK hP 0 yo_12 rfl 72 (Nat.le_of_ble_eq_true rfl) (htt _ lk_Model_258) (fun _ h9 => h9) yg_72 d_Model_tidy_350 ?_
      refine lv_iload hx hb d_Model_tidy_353 (lv_at hl 2 rfl) ?_
      refine lv_aload_n hx hb d_Model_tidy_355 rfl (lv_at hl 0 rfl) ?_
      refine va_get (D := (dC, dI)) (ci := 12) (v := .ref ((v 14))) (C := R_Model) (T := F_Model) (N := 127) hx hb htt iw_Model hown hK hP 0 yo_12 rfl 14 (Nat.le_of_ble_eq_true rfl) (htt _ lk_Model_50) (fun _ h9 => h9) yg_14 d_Model_tidy_356 ?_
      refine lv_aload_n hx hb d_Model_tidy_359 rfl (lv_at hl 0 rfl) ?_
      refine va_get (D := (dC, dI)) (ci := 12) (v := .ref ((v 71))) (C := R_Model) (T := F_Model) (N := 127) hx hb htt iw_Model hown hK hP 0 yo_12 rfl 71 (Nat.le_of_ble_eq_true rfl) (htt _ lk_Model_255) (fun _ h9 => h9) yg_71 d_Model_tidy_360 ?_
      refine lv_iload hx hb d_Model_tidy_363 (lv_at hl 2 rfl) ?_
      obtain ⟨h_24, hm⟩ := ck_some hm
      refine va_iald hx hb hK hP 47 0 ya_71 rfl h_24 d_Model_tidy_365 ?_
      obtain ⟨h_25, hm⟩ := ck_some hm
      refine va_iald hx hb hK hP 14 0 ya_14 rfl h_25 d_Model_tidy_366 ?_
      obtain ⟨h_26, hm⟩ := ck_some hm
      refine va_iast hx hb hK hP hD hS 48 0 ya_72 rfl h_26 d_Model_tidy_367 (fun H locs hP hD hS => ?_)
      obtain ⟨a_27, ea_27⟩ : ∃ y9 : Nat → Nat → Int32, y9 = sv a 72 v5.toNatClampNeg (a 14 (a 71 v5.toNatClampNeg).toNatClampNeg) := ⟨_, rfl⟩
      replace hm := ob1_at ea_27 hm
      obtain ⟨hP, hD⟩ := yv_72 ea_27 hP hD
      obtain ⟨x_28, ex_28⟩ : ∃ y9 : Int32, y9 = v5 + 1 := ⟨_, rfl⟩
      replace hm := ob1_at ex_28 hm
      refine lv_iinc (v := x_28) (lv' := [(5, .int x_28), (0, .ref h), (3, .long v3)]) hx hb d_Model_tidy_368 hl (k := 2) rfl (by rw [ex_28]; rfl) (by decide) rfl (fun ls hl => ?_)
      refine lv_goto (tgt := 340) hx hb d_Model_tidy_371 (by decide) ?_
      exact ih _ _ _ _ _ _ hm _ _ _ hP hD hS (lv_sub hl [1, 2, 0] rfl)
def m_Model_tidy_b279 (n : Nat) (rc_217 : (Nat → Int32) → (Nat → Int64) → (Nat → Nat → Int32) → (Nat → Nat → Int64) → Int64 → Int32 → Option ((Nat → Int32) × (Nat → Int64) × (Nat → Nat → Int32) × (Nat → Nat → Int64) × Int64)) : Nat → (Nat → Int32) → (Nat → Int64) → (Nat → Nat → Int32) → (Nat → Nat → Int64) → Int64 → Int32 → Int32 → Int32 → Option ((Nat → Int32) × (Nat → Int64) × (Nat → Nat → Int32) × (Nat → Nat → Int64) × Int64)
  | 0, _, _, _, _, _, _, _, _ => none
  | f + 1, i, j, a, b, v3, v5, v6, v7 => ck v6 90000 (if ((a 13 v6.toNatClampNeg)) ≤ v7 then ob1 (v5 + 1 : Int32) (fun x_3 => rc_217 i j a b v3 x_3) else ck v5 90000 (ck v6 90000 (ck (((a 12 v6.toNatClampNeg) + v7)) 90000 (om (m_Model_move n i j a b (b 10 ((a 12 v6.toNatClampNeg) + v7).toNatClampNeg)) (fun i_8 j_9 a_10 b_11 r_12 => ck (((a 15 v5.toNatClampNeg) + v7)) 90000 (ob1 (svl b_11 11 ((a 15 v5.toNatClampNeg) + v7).toNatClampNeg r_12 : Nat → Nat → Int64) (fun b_14 => ob1 (v7 + 1 : Int32) (fun x_15 => m_Model_tidy_b279 n rc_217 f i_8 j_9 a_10 b_14 v3 v5 v6 x_15))))))))
set_option maxHeartbeats 4000000 in
set_option maxRecDepth 100000 in
theorem lb_Model_tidy_279 (l : Launch) (dC : Nat → ClassId) (dI : Nat → Nat → Nat) (cI cJ cB : ClassId) (adK adV adA : Nat → Nat) (h : Nat) (v : Nat → Nat) (n : Nat) {p : Program} {e : Env} {s : State} {m : MethodId} {args : Array Value} {below : List Frame} {meth : Method} {c : Code} {A : Nat → Prop} (hx : p.tables.exec = Jvm.exec) (hb : c.code = b_Model_tidy) (hml : c.maxLocals = 8) (hown : s.vm.findClass R_Model = some m.cls) (hts : ∀ w ∈ w_Model_tidy, w.before args s = true) (hK : va_K (dC, dI) classes [(cI, .int), (cJ, .long), (cB, .byte)] s) (hE : tw_E adK adV adA A s s.heap) (hA : ∀ q : Nat, s.heap.size ≤ q → A q) (hr : meth.sig.returnType = (some .long)) (hlocks : meth.locks = false) {i2 : Nat → Int32} {j2 : Nat → Int64} {a2 : Nat → Nat → Int32} {b2 : Nat → Nat → Int64} {r2 : Int64} (rc_217 : (Nat → Int32) → (Nat → Int64) → (Nat → Nat → Int32) → (Nat → Nat → Int64) → Int64 → Int32 → Option ((Nat → Int32) × (Nat → Int64) × (Nat → Nat → Int32) × (Nat → Nat → Int64) × Int64)) (Hrc_217 : ∀ (i : Nat → Int32) (j : Nat → Int64) (a : Nat → Nat → Int32) (b : Nat → Nat → Int64) (v3 : Int64) (v5 : Int32), rc_217 i j a b v3 v5 = some (i2, j2, a2, b2, r2) → ∀ (H : Heap) (locs : List Loc) (ls : Array Slot), va_P (dC, dI) classes (MW cI cJ cB h v i j a b) H → va_D A (MW cI cJ cB h v i j a b) → va_S A s.heap H locs → lv_has ls 8 [(0, .ref h), (3, .long v3), (5, .int v5)] → W p l e ({ frames := 3, cells := 0, slots := 0, locals := 84 } : Room) s m args below meth c H locs 0 0 (MQ below (va_Ql (xR r2) (yB dC dI cI cJ cB h v i2 j2 a2 b2 A) A) args s 0 0 A) (F0 m 217 ls [])) : ∀ (f : Nat) (i : Nat → Int32) (j : Nat → Int64) (a : Nat → Nat → Int32) (b : Nat → Nat → Int64) (v3 : Int64) (v5 : Int32) (v6 : Int32) (v7 : Int32), m_Model_tidy_b279 n rc_217 f i j a b v3 v5 v6 v7 = some (i2, j2, a2, b2, r2) → ∀ (H : Heap) (locs : List Loc) (ls : Array Slot), va_P (dC, dI) classes (MW cI cJ cB h v i j a b) H → va_D A (MW cI cJ cB h v i j a b) → va_S A s.heap H locs → lv_has ls 8 [(0, .ref h), (3, .long v3), (5, .int v5), (6, .int v6), (7, .int v7)] → W p l e ({ frames := 3, cells := 0, slots := 0, locals := 84 } : Room) s m args below meth c H locs 0 0 (MQ below (va_Ql (xR r2) (yB dC dI cI cJ cB h v i2 j2 a2 b2 A) A) args s 0 0 A) (F0 m 279 ls []) := by
  have htt : ∀ w ∈ tw_T, w.before _ s = true := fun w h => hts w (List.mem_cons_of_mem _ h)
  intro f
  induction f with
  | zero =>
    intro i j a b v3 v5 v6 v7 hm
    rw [m_Model_tidy_b279] at hm
    cases hm
  | succ f ih =>
    intro i j a b v3 v5 v6 v7 hm H locs ls hP hD hS hl
    rw [m_Model_tidy_b279] at hm
    refine lv_iload hx hb d_Model_tidy_279 (lv_at hl 4 rfl) ?_
    refine lv_aload_n hx hb d_Model_tidy_281 rfl (lv_at hl 0 rfl) ?_
    refine va_get (D := (dC, dI)) (ci := 12) (v := .ref ((v 13))) (C := R_Model) (T := F_Model) (N := 127) hx hb htt iw_Model hown hK hP 0 yo_12 rfl 13 (Nat.le_of_ble_eq_true rfl) (htt _ lk_Model_47) (fun _ h9 => h9) yg_13 d_Model_tidy_282 ?_
    refine lv_iload hx hb d_Model_tidy_285 (lv_at hl 3 rfl) ?_
    obtain ⟨h_1, hm⟩ := ck_some hm
    refine va_iald hx hb hK hP 13 0 ya_13 rfl h_1 d_Model_tidy_287 ?_
    refine lv_icmp_ge (tgt := 331) hx hb d_Model_tidy_288 (by decide) (fun c_2 => ?_) (fun c_2 => ?_)
    · replace hm := if_t c_2 hm
      obtain ⟨x_3, ex_3⟩ : ∃ y9 : Int32, y9 = v5 + 1 := ⟨_, rfl⟩
      replace hm := ob1_at ex_3 hm
      refine lv_iinc (v := x_3) (lv' := [(5, .int x_3), (0, .ref h), (3, .long v3), (6, .int v6), (7, .int v7)]) hx hb d_Model_tidy_331 hl (k := 2) rfl (by rw [ex_3]; rfl) (by decide) rfl (fun ls hl => ?_)
      refine lv_goto (tgt := 217) hx hb d_Model_tidy_334 (by decide) ?_
      exact Hrc_217 _ _ _ _ _ _ hm _ _ _ hP hD hS (lv_sub hl [1, 2, 0] rfl)
    · replace hm := if_f c_2 hm
      refine lv_aload_n hx hb d_Model_tidy_291 rfl (lv_at hl 0 rfl) ?_
      refine va_get (D := (dC, dI)) (ci := 12) (v := .ref ((v 11))) (C := R_Model) (T := F_Model) (N := 127) hx hb htt iw_Model hown hK hP 0 yo_12 rfl 11 (Nat.le_of_ble_eq_true rfl) (htt _ lk_Model_170) (fun _ h9 => h9) yg_11 d_Model_tidy_292 ?_
      refine lv_aload_n hx hb d_Model_tidy_295 rfl (lv_at hl 0 rfl) ?_
      refine va_get (D := (dC, dI)) (ci := 12) (v := .ref ((v 15))) (C := R_Model) (T := F_Model) (N := 127) hx hb htt iw_Model hown hK hP 0 yo_12 rfl 15 (Nat.le_of_ble_eq_true rfl) (htt _ lk_Model_173) (fun _ h9 => h9) yg_15 d_Model_tidy_296 ?_
      refine lv_iload hx hb d_Model_tidy_299 (lv_at hl 2 rfl) ?_
      obtain ⟨h_4, hm⟩ := ck_some hm
      refine va_iald hx hb hK hP 15 0 ya_15 rfl h_4 d_Model_tidy_301 ?_
      refine lv_iload hx hb d_Model_tidy_302 (lv_at hl 4 rfl) ?_
      refine lv_iadd hx hb d_Model_tidy_304 ?_
      refine lv_aload_n hx hb d_Model_tidy_305 rfl (lv_at hl 0 rfl) ?_
      refine lv_aload_n hx hb d_Model_tidy_306 rfl (lv_at hl 0 rfl) ?_
      refine va_get (D := (dC, dI)) (ci := 12) (v := .ref ((v 10))) (C := R_Model) (T := F_Model) (N := 127) hx hb htt iw_Model hown hK hP 0 yo_12 rfl 10 (Nat.le_of_ble_eq_true rfl) (htt _ lk_Model_35) (fun _ h9 => h9) yg_10 d_Model_tidy_307 ?_
      refine lv_aload_n hx hb d_Model_tidy_310 rfl (lv_at hl 0 rfl) ?_
      refine va_get (D := (dC, dI)) (ci := 12) (v := .ref ((v 12))) (C := R_Model) (T := F_Model) (N := 127) hx hb htt iw_Model hown hK hP 0 yo_12 rfl 12 (Nat.le_of_ble_eq_true rfl) (htt _ lk_Model_41) (fun _ h9 => h9) yg_12 d_Model_tidy_311 ?_
      refine lv_iload hx hb d_Model_tidy_314 (lv_at hl 3 rfl) ?_
      obtain ⟨h_5, hm⟩ := ck_some hm
      refine va_iald hx hb hK hP 12 0 ya_12 rfl h_5 d_Model_tidy_316 ?_
      refine lv_iload hx hb d_Model_tidy_317 (lv_at hl 4 rfl) ?_
      refine lv_iadd hx hb d_Model_tidy_319 ?_
      obtain ⟨h_6, hm⟩ := ck_some hm
      refine va_lald hx hb hK hP 10 1 ya_10 rfl h_6 d_Model_tidy_320 ?_
      obtain ⟨i_8, j_9, a_10, b_11, r_12, h_7, hm⟩ := om_some hm
      have hFc := x_free hD hS hA
      refine va_calll (va_runV (As := [.long (b 10 ((a 12 v6.toNatClampNeg) + v7).toNatClampNeg)]) (rest := [.int ((a 15 v5.toNatClampNeg) + v7), .ref ((v 11))]) ⟨hx, hb, hml, hown, hts⟩ (x_Model_move l dC dI cI cJ cB adK adV adA h v H.size n h_7) (cwV 1 hts (tw_GV tw_cons cw_Model_move lk_Model_405 in_Model_move sel_Model_move ini_Model) rfl rfl rfl ⟨rfl, hd_Model_move⟩ ⟨Nat.le_of_ble_eq_true rfl, Nat.le_of_ble_eq_true rfl⟩) (ypV hK hP hD hS hE hFc yo_12 rfl) rfl rfl hl.1 rfl (lv_room (Nat.le_of_ble_eq_true rfl)) d_Model_tidy_321 ⟨Nat.le_of_ble_eq_true rfl, Nat.le_of_ble_eq_true rfl⟩) hS (fun q _ h => hFc q h) hFc (fun r9 u9 t9 H locs ht hvm e9 hB hz1 hk1 hS => ?_)
      have e9 : r_12 = r9 := e9
      subst e9
      obtain ⟨hP, hD⟩ := y_aft hB ht hFc
      clear hFc hk1 hz1 hvm hB ht
      obtain ⟨h_13, hm⟩ := ck_some hm
      refine va_last hx hb hK hP hD hS 11 1 ya_11 rfl h_13 d_Model_tidy_324 (fun H locs hP hD hS => ?_)
      obtain ⟨b_14, eb_14⟩ : ∃ y9 : Nat → Nat → Int64, y9 = svl b_11 11 ((a 15 v5.toNatClampNeg) + v7).toNatClampNeg r_12 := ⟨_, rfl⟩
      replace hm := ob1_at eb_14 hm
      obtain ⟨hP, hD⟩ := yv_11 eb_14 hP hD
      obtain ⟨x_15, ex_15⟩ : ∃ y9 : Int32, y9 = v7 + 1 := ⟨_, rfl⟩
      replace hm := ob1_at ex_15 hm
      refine lv_iinc (v := x_15) (lv' := [(7, .int x_15), (0, .ref h), (3, .long v3), (5, .int v5), (6, .int v6)]) hx hb d_Model_tidy_325 hl (k := 4) rfl (by rw [ex_15]; rfl) (by decide) rfl (fun ls hl => ?_)
      refine lv_goto (tgt := 279) hx hb d_Model_tidy_328 (by decide) ?_
      exact ih _ _ _ _ _ _ _ _ hm _ _ _ hP hD hS (lv_sub hl [1, 2, 3, 4, 0] rfl)
def m_Model_tidy_b217 (n : Nat) : Nat → (Nat → Int32) → (Nat → Int64) → (Nat → Nat → Int32) → (Nat → Nat → Int64) → Int64 → Int32 → Option ((Nat → Int32) × (Nat → Int64) × (Nat → Nat → Int32) × (Nat → Nat → Int64) × Int64)
  | 0, _, _, _, _, _, _ => none
  | f + 1, i, j, a, b, v3, v5 => if ((i 70)) ≤ v5 then m_Model_tidy_b340 n n i j a b v3 (0 : Int32) else ck v5 90000 (ob1 (a 71 v5.toNatClampNeg : Int32) (fun x_3 => ck v5 90000 (ob1 (sv a 15 v5.toNatClampNeg (i 69) : Nat → Nat → Int32) (fun a_5 => ck x_3 90000 (ck v5 90000 (ob1 (sv a_5 16 v5.toNatClampNeg (a_5 13 x_3.toNatClampNeg) : Nat → Nat → Int32) (fun a_8 => ck x_3 90000 (ob1 ((i 69) + (a_8 13 x_3.toNatClampNeg) : Int32) (fun x_10 => ob1 (upd i 69 x_10 : Nat → Int32) (fun i_11 => m_Model_tidy_b279 n (m_Model_tidy_b217 n f) n i_11 j a_8 b v3 v5 x_3 (0 : Int32)))))))))))
set_option maxHeartbeats 4000000 in
set_option maxRecDepth 100000 in
theorem lb_Model_tidy_217 (l : Launch) (dC : Nat → ClassId) (dI : Nat → Nat → Nat) (cI cJ cB : ClassId) (adK adV adA : Nat → Nat) (h : Nat) (v : Nat → Nat) (n : Nat) {p : Program} {e : Env} {s : State} {m : MethodId} {args : Array Value} {below : List Frame} {meth : Method} {c : Code} {A : Nat → Prop} (hx : p.tables.exec = Jvm.exec) (hb : c.code = b_Model_tidy) (hml : c.maxLocals = 8) (hown : s.vm.findClass R_Model = some m.cls) (hts : ∀ w ∈ w_Model_tidy, w.before args s = true) (hK : va_K (dC, dI) classes [(cI, .int), (cJ, .long), (cB, .byte)] s) (hE : tw_E adK adV adA A s s.heap) (hA : ∀ q : Nat, s.heap.size ≤ q → A q) (hr : meth.sig.returnType = (some .long)) (hlocks : meth.locks = false) {i2 : Nat → Int32} {j2 : Nat → Int64} {a2 : Nat → Nat → Int32} {b2 : Nat → Nat → Int64} {r2 : Int64} : ∀ (f : Nat) (i : Nat → Int32) (j : Nat → Int64) (a : Nat → Nat → Int32) (b : Nat → Nat → Int64) (v3 : Int64) (v5 : Int32), m_Model_tidy_b217 n f i j a b v3 v5 = some (i2, j2, a2, b2, r2) → ∀ (H : Heap) (locs : List Loc) (ls : Array Slot), va_P (dC, dI) classes (MW cI cJ cB h v i j a b) H → va_D A (MW cI cJ cB h v i j a b) → va_S A s.heap H locs → lv_has ls 8 [(0, .ref h), (3, .long v3), (5, .int v5)] → W p l e ({ frames := 3, cells := 0, slots := 0, locals := 84 } : Room) s m args below meth c H locs 0 0 (MQ below (va_Ql (xR r2) (yB dC dI cI cJ cB h v i2 j2 a2 b2 A) A) args s 0 0 A) (F0 m 217 ls []) := by
  have htt : ∀ w ∈ tw_T, w.before _ s = true := fun w h => hts w (List.mem_cons_of_mem _ h)
  intro f
  induction f with
  | zero =>
    intro i j a b v3 v5 hm
    rw [m_Model_tidy_b217] at hm
    cases hm
  | succ f ih =>
    intro i j a b v3 v5 hm H locs ls hP hD hS hl
    rw [m_Model_tidy_b217] at hm
    refine lv_iload hx hb d_Model_tidy_217 (lv_at hl 2 rfl) ?_
    refine lv_aload_n hx hb d_Model_tidy_219 rfl (lv_at hl 0 rfl) ?_
    refine va_get (D := (dC, dI)) (ci := 12) (v := .int (i 70)) (C := R_Model) (T := F_Model) (N := 127) hx hb htt iw_Model hown hK hP 0 yo_12 rfl 70 (Nat.le_of_ble_eq_true rfl) (htt _ lk_Model_399) (fun _ h9 => h9) yg_70 d_Model_tidy_220 ?_
    refine lv_icmp_ge (tgt := 337) hx hb d_Model_tidy_223 (by decide) (fun c_1 => ?_) (fun c_1 => ?_)
    · replace hm := if_t c_1 hm
      refine lv_iconst (v := 0) hx hb d_Model_tidy_337 (by decide) ?_
      refine lv_istore (lv' := [(5, .int 0), (0, .ref h), (3, .long v3)]) hx hb d_Model_tidy_338 hl (by decide) rfl (fun ls hl => ?_)
      exact lb_Model_tidy_340 l dC dI cI cJ cB adK adV adA h v n hx hb hml hown hts hK hE hA hr hlocks n _ _ _ _ _ _ hm _ _ _ hP hD hS (lv_sub hl [1, 2, 0] rfl)
    · replace hm := if_f c_1 hm
      refine lv_aload_n hx hb d_Model_tidy_226 rfl (lv_at hl 0 rfl) ?_
      refine va_get (D := (dC, dI)) (ci := 12) (v := .ref ((v 71))) (C := R_Model) (T := F_Model) (N := 127) hx hb htt iw_Model hown hK hP 0 yo_12 rfl 71 (Nat.le_of_ble_eq_true rfl) (htt _ lk_Model_255) (fun _ h9 => h9) yg_71 d_Model_tidy_227 ?_
      refine lv_iload hx hb d_Model_tidy_230 (lv_at hl 2 rfl) ?_
      obtain ⟨h_2, hm⟩ := ck_some hm
      refine va_iald hx hb hK hP 47 0 ya_71 rfl h_2 d_Model_tidy_232 ?_
      refine lv_topi (fun x_3 ex_3 => ?_)
      replace hm := ob1_at ex_3 hm
      refine lv_istore (lv' := [(6, .int x_3), (0, .ref h), (3, .long v3), (5, .int v5)]) hx hb d_Model_tidy_233 hl (by decide) rfl (fun ls hl => ?_)
      refine lv_aload_n hx hb d_Model_tidy_235 rfl (lv_at hl 1 rfl) ?_
      refine va_get (D := (dC, dI)) (ci := 12) (v := .ref ((v 15))) (C := R_Model) (T := F_Model) (N := 127) hx hb htt iw_Model hown hK hP 0 yo_12 rfl 15 (Nat.le_of_ble_eq_true rfl) (htt _ lk_Model_173) (fun _ h9 => h9) yg_15 d_Model_tidy_236 ?_
      refine lv_iload hx hb d_Model_tidy_239 (lv_at hl 3 rfl) ?_
      refine lv_aload_n hx hb d_Model_tidy_241 rfl (lv_at hl 1 rfl) ?_
      refine va_get (D := (dC, dI)) (ci := 12) (v := .int (i 69)) (C := R_Model) (T := F_Model) (N := 127) hx hb htt iw_Model hown hK hP 0 yo_12 rfl 69 (Nat.le_of_ble_eq_true rfl) (htt _ lk_Model_402) (fun _ h9 => h9) yg_69 d_Model_tidy_242 ?_
      obtain ⟨h_4, hm⟩ := ck_some hm
      refine va_iast hx hb hK hP hD hS 15 0 ya_15 rfl h_4 d_Model_tidy_245 (fun H locs hP hD hS => ?_)
      obtain ⟨a_5, ea_5⟩ : ∃ y9 : Nat → Nat → Int32, y9 = sv a 15 v5.toNatClampNeg (i 69) := ⟨_, rfl⟩
      replace hm := ob1_at ea_5 hm
      obtain ⟨hP, hD⟩ := yv_15 ea_5 hP hD
      refine lv_aload_n hx hb d_Model_tidy_246 rfl (lv_at hl 1 rfl) ?_
      refine va_get (D := (dC, dI)) (ci := 12) (v := .ref ((v 16))) (C := R_Model) (T := F_Model) (N := 127) hx hb htt iw_Model hown hK hP 0 yo_12 rfl 16 (Nat.le_of_ble_eq_true rfl) (htt _ lk_Model_176) (fun _ h9 => h9) yg_16 d_Model_tidy_247 ?_
      refine lv_iload hx hb d_Model_tidy_250 (lv_at hl 3 rfl) ?_
      refine lv_aload_n hx hb d_Model_tidy_252 rfl (lv_at hl 1 rfl) ?_
      refine va_get (D := (dC, dI)) (ci := 12) (v := .ref ((v 13))) (C := R_Model) (T := F_Model) (N := 127) hx hb htt iw_Model hown hK hP 0 yo_12 rfl 13 (Nat.le_of_ble_eq_true rfl) (htt _ lk_Model_47) (fun _ h9 => h9) yg_13 d_Model_tidy_253 ?_
      refine lv_iload hx hb d_Model_tidy_256 (lv_at hl 0 rfl) ?_
      obtain ⟨h_6, hm⟩ := ck_some hm
      refine va_iald hx hb hK hP 13 0 ya_13 rfl h_6 d_Model_tidy_258 ?_
      obtain ⟨h_7, hm⟩ := ck_some hm
      refine va_iast hx hb hK hP hD hS 16 0 ya_16 rfl h_7 d_Model_tidy_259 (fun H locs hP hD hS => ?_)
      obtain ⟨a_8, ea_8⟩ : ∃ y9 : Nat → Nat → Int32, y9 = sv a_5 16 v5.toNatClampNeg (a_5 13 x_3.toNatClampNeg) := ⟨_, rfl⟩
      replace hm := ob1_at ea_8 hm
      obtain ⟨hP, hD⟩ := yv_16 ea_8 hP hD
      refine lv_aload_n hx hb d_Model_tidy_260 rfl (lv_at hl 1 rfl) ?_
      refine lv_dup hx hb d_Model_tidy_261 rfl ?_
      refine va_get (D := (dC, dI)) (ci := 12) (v := .int (i 69)) (C := R_Model) (T := F_Model) (N := 127) hx hb htt iw_Model hown hK hP 0 yo_12 rfl 69 (Nat.le_of_ble_eq_true rfl) (htt _ lk_Model_402) (fun _ h9 => h9) yg_69 d_Model_tidy_262 ?_
      refine lv_aload_n hx hb d_Model_tidy_265 rfl (lv_at hl 1 rfl) ?_
      refine va_get (D := (dC, dI)) (ci := 12) (v := .ref ((v 13))) (C := R_Model) (T := F_Model) (N := 127) hx hb htt iw_Model hown hK hP 0 yo_12 rfl 13 (Nat.le_of_ble_eq_true rfl) (htt _ lk_Model_47) (fun _ h9 => h9) yg_13 d_Model_tidy_266 ?_
      refine lv_iload hx hb d_Model_tidy_269 (lv_at hl 0 rfl) ?_
      obtain ⟨h_9, hm⟩ := ck_some hm
      refine va_iald hx hb hK hP 13 0 ya_13 rfl h_9 d_Model_tidy_271 ?_
      refine lv_iadd hx hb d_Model_tidy_272 ?_
      refine lv_topi (fun x_10 ex_10 => ?_)
      replace hm := ob1_at ex_10 hm
      refine va_put (D := (dC, dI)) (ci := 12) (v := .int x_10) (ty := .int) (C := R_Model) (T := F_Model) (N := 127) hx hb htt iw_Model t_Model t_Model_ok n_Model hown hK hP hD hS 0 yo_12 rfl 69 (Nat.le_of_ble_eq_true rfl) (htt _ lk_Model_402) (fun _ h9 => h9) rfl (by decide +kernel) rfl rfl yl_69 d_Model_tidy_273 (fun H locs hP hD hS => ?_)
      obtain ⟨i_11, ei_11⟩ : ∃ y9 : Nat → Int32, y9 = upd i 69 x_10 := ⟨_, rfl⟩
      replace hm := ob1_at ei_11 hm
      obtain ⟨hP, hD⟩ := yw_69 ei_11 hP hD
      refine lv_iconst (v := 0) hx hb d_Model_tidy_276 (by decide) ?_
      refine lv_istore (lv' := [(7, .int 0), (6, .int x_3), (0, .ref h), (3, .long v3), (5, .int v5)]) hx hb d_Model_tidy_277 hl (by decide) rfl (fun ls hl => ?_)
      exact lb_Model_tidy_279 l dC dI cI cJ cB adK adV adA h v n hx hb hml hown hts hK hE hA hr hlocks (m_Model_tidy_b217 n f) ih n _ _ _ _ _ _ _ _ hm _ _ _ hP hD hS (lv_sub hl [2, 3, 4, 1, 0] rfl)
def m_Model_tidy_b162 (n : Nat) : Nat → (Nat → Int32) → (Nat → Int64) → (Nat → Nat → Int32) → (Nat → Nat → Int64) → Int64 → Int32 → Option ((Nat → Int32) × (Nat → Int64) × (Nat → Nat → Int32) × (Nat → Nat → Int64) × Int64)
  | 0, _, _, _, _, _, _ => none
  | f + 1, i, j, a, b, v1, v3 => if ((i 36)) ≤ v3 then om (m_Model_move n i j a b v1) (fun i_3 j_4 a_5 b_6 r_7 => m_Model_tidy_b217 n n i_3 j_4 a_5 b_6 r_7 (0 : Int32)) else ck v3 64 (om (m_Model_moveWord n i j a b (a 34 v3.toNatClampNeg)) (fun i_10 j_11 a_12 b_13 r_14 => ck v3 64 (ob1 (sv a_12 34 v3.toNatClampNeg r_14 : Nat → Nat → Int32) (fun a_16 => ck v3 64 (om (m_Model_move n i_10 j_11 a_16 b_13 (b_13 35 v3.toNatClampNeg)) (fun i_19 j_20 a_21 b_22 r_23 => ck v3 64 (ob1 (svl b_22 35 v3.toNatClampNeg r_23 : Nat → Nat → Int64) (fun b_25 => ob1 (v3 + 1 : Int32) (fun x_26 => m_Model_tidy_b162 n f i_19 j_20 a_21 b_25 v1 x_26)))))))))
set_option maxHeartbeats 4000000 in
set_option maxRecDepth 100000 in
theorem lb_Model_tidy_162 (l : Launch) (dC : Nat → ClassId) (dI : Nat → Nat → Nat) (cI cJ cB : ClassId) (adK adV adA : Nat → Nat) (h : Nat) (v : Nat → Nat) (n : Nat) {p : Program} {e : Env} {s : State} {m : MethodId} {args : Array Value} {below : List Frame} {meth : Method} {c : Code} {A : Nat → Prop} (hx : p.tables.exec = Jvm.exec) (hb : c.code = b_Model_tidy) (hml : c.maxLocals = 8) (hown : s.vm.findClass R_Model = some m.cls) (hts : ∀ w ∈ w_Model_tidy, w.before args s = true) (hK : va_K (dC, dI) classes [(cI, .int), (cJ, .long), (cB, .byte)] s) (hE : tw_E adK adV adA A s s.heap) (hA : ∀ q : Nat, s.heap.size ≤ q → A q) (hr : meth.sig.returnType = (some .long)) (hlocks : meth.locks = false) {i2 : Nat → Int32} {j2 : Nat → Int64} {a2 : Nat → Nat → Int32} {b2 : Nat → Nat → Int64} {r2 : Int64} : ∀ (f : Nat) (i : Nat → Int32) (j : Nat → Int64) (a : Nat → Nat → Int32) (b : Nat → Nat → Int64) (v1 : Int64) (v3 : Int32), m_Model_tidy_b162 n f i j a b v1 v3 = some (i2, j2, a2, b2, r2) → ∀ (H : Heap) (locs : List Loc) (ls : Array Slot), va_P (dC, dI) classes (MW cI cJ cB h v i j a b) H → va_D A (MW cI cJ cB h v i j a b) → va_S A s.heap H locs → lv_has ls 8 [(0, .ref h), (1, .long v1), (3, .int v3)] → W p l e ({ frames := 3, cells := 0, slots := 0, locals := 84 } : Room) s m args below meth c H locs 0 0 (MQ below (va_Ql (xR r2) (yB dC dI cI cJ cB h v i2 j2 a2 b2 A) A) args s 0 0 A) (F0 m 162 ls []) := by
  have htt : ∀ w ∈ tw_T, w.before _ s = true := fun w h => hts w (List.mem_cons_of_mem _ h)
  intro f
  induction f with
  | zero =>
    intro i j a b v1 v3 hm
    rw [m_Model_tidy_b162] at hm
    cases hm
  | succ f ih =>
    intro i j a b v1 v3 hm H locs ls hP hD hS hl
    rw [m_Model_tidy_b162] at hm
    refine lv_iload_n hx hb d_Model_tidy_162 rfl (lv_at hl 2 rfl) ?_
    refine lv_aload_n hx hb d_Model_tidy_163 rfl (lv_at hl 0 rfl) ?_
    refine va_get (D := (dC, dI)) (ci := 12) (v := .int (i 36)) (C := R_Model) (T := F_Model) (N := 127) hx hb htt iw_Model hown hK hP 0 yo_12 rfl 36 (Nat.le_of_ble_eq_true rfl) (htt _ lk_Model_350) (fun _ h9 => h9) yg_36 d_Model_tidy_164 ?_
    refine lv_icmp_ge (tgt := 208) hx hb d_Model_tidy_167 (by decide) (fun c_1 => ?_) (fun c_1 => ?_)
    · replace hm := if_t c_1 hm
      refine lv_aload_n hx hb d_Model_tidy_208 rfl (lv_at hl 0 rfl) ?_
      refine lv_lload_n hx hb d_Model_tidy_209 rfl (lv_at hl 1 rfl) ?_
      obtain ⟨i_3, j_4, a_5, b_6, r_7, h_2, hm⟩ := om_some hm
      have hFc := x_free hD hS hA
      refine va_calll (va_runV (As := [.long v1]) (rest := []) ⟨hx, hb, hml, hown, hts⟩ (x_Model_move l dC dI cI cJ cB adK adV adA h v H.size n h_2) (cwV 1 hts (tw_GV tw_cons cw_Model_move lk_Model_405 in_Model_move sel_Model_move ini_Model) rfl rfl rfl ⟨rfl, hd_Model_move⟩ ⟨Nat.le_of_ble_eq_true rfl, Nat.le_of_ble_eq_true rfl⟩) (ypV hK hP hD hS hE hFc yo_12 rfl) rfl rfl hl.1 rfl (lv_room (Nat.le_of_ble_eq_true rfl)) d_Model_tidy_210 ⟨Nat.le_of_ble_eq_true rfl, Nat.le_of_ble_eq_true rfl⟩) hS (fun q _ h => hFc q h) hFc (fun r9 u9 t9 H locs ht hvm e9 hB hz1 hk1 hS => ?_)
      have e9 : r_7 = r9 := e9
      subst e9
      obtain ⟨hP, hD⟩ := y_aft hB ht hFc
      clear hFc hk1 hz1 hvm hB ht
      refine lv_lstore_n (lv' := [(3, .long r_7), (0, .ref h), (1, .long v1)]) hx hb d_Model_tidy_213 rfl hl (by decide) rfl (fun ls hl => ?_)
      refine lv_iconst (v := 0) hx hb d_Model_tidy_214 (by decide) ?_
      refine lv_istore (lv' := [(5, .int 0), (3, .long r_7), (0, .ref h), (1, .long v1)]) hx hb d_Model_tidy_215 hl (by decide) rfl (fun ls hl => ?_)
      exact lb_Model_tidy_217 l dC dI cI cJ cB adK adV adA h v n hx hb hml hown hts hK hE hA hr hlocks n _ _ _ _ _ _ hm _ _ _ hP hD hS (lv_sub hl [2, 1, 0] rfl)
    · replace hm := if_f c_1 hm
      refine lv_aload_n hx hb d_Model_tidy_170 rfl (lv_at hl 0 rfl) ?_
      refine va_get (D := (dC, dI)) (ci := 12) (v := .ref ((v 34))) (C := R_Model) (T := F_Model) (N := 127) hx hb htt iw_Model hown hK hP 0 yo_12 rfl 34 (Nat.le_of_ble_eq_true rfl) (htt _ lk_Model_195) (fun _ h9 => h9) yg_34 d_Model_tidy_171 ?_
      refine lv_iload_n hx hb d_Model_tidy_174 rfl (lv_at hl 2 rfl) ?_
      refine lv_aload_n hx hb d_Model_tidy_175 rfl (lv_at hl 0 rfl) ?_
      refine lv_aload_n hx hb d_Model_tidy_176 rfl (lv_at hl 0 rfl) ?_
      refine va_get (D := (dC, dI)) (ci := 12) (v := .ref ((v 34))) (C := R_Model) (T := F_Model) (N := 127) hx hb htt iw_Model hown hK hP 0 yo_12 rfl 34 (Nat.le_of_ble_eq_true rfl) (htt _ lk_Model_195) (fun _ h9 => h9) yg_34 d_Model_tidy_177 ?_
      refine lv_iload_n hx hb d_Model_tidy_180 rfl (lv_at hl 2 rfl) ?_
      obtain ⟨h_8, hm⟩ := ck_some hm
      refine va_iald hx hb hK hP 27 0 ya_34 rfl h_8 d_Model_tidy_181 ?_
      obtain ⟨i_10, j_11, a_12, b_13, r_14, h_9, hm⟩ := om_some hm
      have hFc := x_free hD hS hA
      refine va_calli (va_runV (As := [.int (a 34 v3.toNatClampNeg)]) (rest := [.int v3, .ref ((v 34))]) ⟨hx, hb, hml, hown, hts⟩ (x_Model_moveWord l dC dI cI cJ cB adK adV adA h v H.size n h_9) (cwV 1 hts (tw_GV tw_cons cw_Model_moveWord lk_Model_393 in_Model_moveWord sel_Model_moveWord ini_Model) rfl rfl rfl ⟨rfl, hd_Model_moveWord⟩ ⟨Nat.le_of_ble_eq_true rfl, Nat.le_of_ble_eq_true rfl⟩) (ypV hK hP hD hS hE hFc yo_12 rfl) rfl rfl hl.1 rfl (lv_room (Nat.le_of_ble_eq_true rfl)) d_Model_tidy_182 ⟨Nat.le_of_ble_eq_true rfl, Nat.le_of_ble_eq_true rfl⟩) hS (fun q _ h => hFc q h) hFc (fun r9 u9 t9 H locs ht hvm e9 hB hz1 hk1 hS => ?_)
      have e9 : r_14 = r9 := e9
      subst e9
      obtain ⟨hP, hD⟩ := y_aft hB ht hFc
      clear hFc hk1 hz1 hvm hB ht
      obtain ⟨h_15, hm⟩ := ck_some hm
      refine va_iast hx hb hK hP hD hS 27 0 ya_34 rfl h_15 d_Model_tidy_185 (fun H locs hP hD hS => ?_)
      obtain ⟨a_16, ea_16⟩ : ∃ y9 : Nat → Nat → Int32, y9 = sv a_12 34 v3.toNatClampNeg r_14 := ⟨_, rfl⟩
      replace hm := ob1_at ea_16 hm
      obtain ⟨hP, hD⟩ := yv_34 ea_16 hP hD
      refine lv_aload_n hx hb d_Model_tidy_186 rfl (lv_at hl 0 rfl) ?_
      refine va_get (D := (dC, dI)) (ci := 12) (v := .ref ((v 35))) (C := R_Model) (T := F_Model) (N := 127) hx hb htt iw_Model hown hK hP 0 yo_12 rfl 35 (Nat.le_of_ble_eq_true rfl) (htt _ lk_Model_198) (fun _ h9 => h9) yg_35 d_Model_tidy_187 ?_
      refine lv_iload_n hx hb d_Model_tidy_190 rfl (lv_at hl 2 rfl) ?_
      refine lv_aload_n hx hb d_Model_tidy_191 rfl (lv_at hl 0 rfl) ?_
      refine lv_aload_n hx hb d_Model_tidy_192 rfl (lv_at hl 0 rfl) ?_
      refine va_get (D := (dC, dI)) (ci := 12) (v := .ref ((v 35))) (C := R_Model) (T := F_Model) (N := 127) hx hb htt iw_Model hown hK hP 0 yo_12 rfl 35 (Nat.le_of_ble_eq_true rfl) (htt _ lk_Model_198) (fun _ h9 => h9) yg_35 d_Model_tidy_193 ?_
      refine lv_iload_n hx hb d_Model_tidy_196 rfl (lv_at hl 2 rfl) ?_
      obtain ⟨h_17, hm⟩ := ck_some hm
      refine va_lald hx hb hK hP 28 1 ya_35 rfl h_17 d_Model_tidy_197 ?_
      obtain ⟨i_19, j_20, a_21, b_22, r_23, h_18, hm⟩ := om_some hm
      have hFc := x_free hD hS hA
      refine va_calll (va_runV (As := [.long (b_13 35 v3.toNatClampNeg)]) (rest := [.int v3, .ref ((v 35))]) ⟨hx, hb, hml, hown, hts⟩ (x_Model_move l dC dI cI cJ cB adK adV adA h v H.size n h_18) (cwV 1 hts (tw_GV tw_cons cw_Model_move lk_Model_405 in_Model_move sel_Model_move ini_Model) rfl rfl rfl ⟨rfl, hd_Model_move⟩ ⟨Nat.le_of_ble_eq_true rfl, Nat.le_of_ble_eq_true rfl⟩) (ypV hK hP hD hS hE hFc yo_12 rfl) rfl rfl hl.1 rfl (lv_room (Nat.le_of_ble_eq_true rfl)) d_Model_tidy_198 ⟨Nat.le_of_ble_eq_true rfl, Nat.le_of_ble_eq_true rfl⟩) hS (fun q _ h => hFc q h) hFc (fun r9 u9 t9 H locs ht hvm e9 hB hz1 hk1 hS => ?_)
      have e9 : r_23 = r9 := e9
      subst e9
      obtain ⟨hP, hD⟩ := y_aft hB ht hFc
      clear hFc hk1 hz1 hvm hB ht
      obtain ⟨h_24, hm⟩ := ck_some hm
      refine va_last hx hb hK hP hD hS 28 1 ya_35 rfl h_24 d_Model_tidy_201 (fun H locs hP hD hS => ?_)
      obtain ⟨b_25, eb_25⟩ : ∃ y9 : Nat → Nat → Int64, y9 = svl b_22 35 v3.toNatClampNeg r_23 := ⟨_, rfl⟩
      replace hm := ob1_at eb_25 hm
      obtain ⟨hP, hD⟩ := yv_35 eb_25 hP hD
      obtain ⟨x_26, ex_26⟩ : ∃ y9 : Int32, y9 = v3 + 1 := ⟨_, rfl⟩
      replace hm := ob1_at ex_26 hm
      refine lv_iinc (v := x_26) (lv' := [(3, .int x_26), (0, .ref h), (1, .long v1)]) hx hb d_Model_tidy_202 hl (k := 2) rfl (by rw [ex_26]; rfl) (by decide) rfl (fun ls hl => ?_)
      refine lv_goto (tgt := 162) hx hb d_Model_tidy_205 (by decide) ?_
      exact ih _ _ _ _ _ _ hm _ _ _ hP hD hS (lv_sub hl [1, 2, 0] rfl)
def m_Model_tidy_b95 (n : Nat) (rc_68 : (Nat → Int32) → (Nat → Int64) → (Nat → Nat → Int32) → (Nat → Nat → Int64) → Int64 → Int32 → Option ((Nat → Int32) × (Nat → Int64) × (Nat → Nat → Int32) × (Nat → Nat → Int64) × Int64)) : Nat → (Nat → Int32) → (Nat → Int64) → (Nat → Nat → Int32) → (Nat → Nat → Int64) → Int64 → Int32 → Int32 → Option ((Nat → Int32) × (Nat → Int64) × (Nat → Nat → Int32) × (Nat → Nat → Int64) × Int64)
  | 0, _, _, _, _, _, _, _ => none
  | f + 1, i, j, a, b, v1, v3, v4 => ck v3 40 (if ((a 30 v3.toNatClampNeg)) ≤ v4 then ck v3 40 (om (m_Model_move n i j a b (b 32 v3.toNatClampNeg)) (fun i_5 j_6 a_7 b_8 r_9 => ck v3 40 (ob1 (svl b_8 32 v3.toNatClampNeg r_9 : Nat → Nat → Int64) (fun b_11 => ob1 (v3 + 1 : Int32) (fun x_12 => rc_68 i_5 j_6 a_7 b_11 v1 x_12))))) else ck (((5 * v3) + v4)) 200 (om (m_Model_moveWord n i j a b (a 31 ((5 * v3) + v4).toNatClampNeg)) (fun i_15 j_16 a_17 b_18 r_19 => ck (((5 * v3) + v4)) 200 (ob1 (sv a_17 31 ((5 * v3) + v4).toNatClampNeg r_19 : Nat → Nat → Int32) (fun a_21 => ob1 (v4 + 1 : Int32) (fun x_22 => m_Model_tidy_b95 n rc_68 f i_15 j_16 a_21 b_18 v1 v3 x_22))))))
set_option maxHeartbeats 4000000 in
set_option maxRecDepth 100000 in
theorem lb_Model_tidy_95 (l : Launch) (dC : Nat → ClassId) (dI : Nat → Nat → Nat) (cI cJ cB : ClassId) (adK adV adA : Nat → Nat) (h : Nat) (v : Nat → Nat) (n : Nat) {p : Program} {e : Env} {s : State} {m : MethodId} {args : Array Value} {below : List Frame} {meth : Method} {c : Code} {A : Nat → Prop} (hx : p.tables.exec = Jvm.exec) (hb : c.code = b_Model_tidy) (hml : c.maxLocals = 8) (hown : s.vm.findClass R_Model = some m.cls) (hts : ∀ w ∈ w_Model_tidy, w.before args s = true) (hK : va_K (dC, dI) classes [(cI, .int), (cJ, .long), (cB, .byte)] s) (hE : tw_E adK adV adA A s s.heap) (hA : ∀ q : Nat, s.heap.size ≤ q → A q) (hr : meth.sig.returnType = (some .long)) (hlocks : meth.locks = false) {i2 : Nat → Int32} {j2 : Nat → Int64} {a2 : Nat → Nat → Int32} {b2 : Nat → Nat → Int64} {r2 : Int64} (rc_68 : (Nat → Int32) → (Nat → Int64) → (Nat → Nat → Int32) → (Nat → Nat → Int64) → Int64 → Int32 → Option ((Nat → Int32) × (Nat → Int64) × (Nat → Nat → Int32) × (Nat → Nat → Int64) × Int64)) (Hrc_68 : ∀ (i : Nat → Int32) (j : Nat → Int64) (a : Nat → Nat → Int32) (b : Nat → Nat → Int64) (v1 : Int64) (v3 : Int32), rc_68 i j a b v1 v3 = some (i2, j2, a2, b2, r2) → ∀ (H : Heap) (locs : List Loc) (ls : Array Slot), va_P (dC, dI) classes (MW cI cJ cB h v i j a b) H → va_D A (MW cI cJ cB h v i j a b) → va_S A s.heap H locs → lv_has ls 8 [(0, .ref h), (1, .long v1), (3, .int v3)] → W p l e ({ frames := 3, cells := 0, slots := 0, locals := 84 } : Room) s m args below meth c H locs 0 0 (MQ below (va_Ql (xR r2) (yB dC dI cI cJ cB h v i2 j2 a2 b2 A) A) args s 0 0 A) (F0 m 68 ls [])) : ∀ (f : Nat) (i : Nat → Int32) (j : Nat → Int64) (a : Nat → Nat → Int32) (b : Nat → Nat → Int64) (v1 : Int64) (v3 : Int32) (v4 : Int32), m_Model_tidy_b95 n rc_68 f i j a b v1 v3 v4 = some (i2, j2, a2, b2, r2) → ∀ (H : Heap) (locs : List Loc) (ls : Array Slot), va_P (dC, dI) classes (MW cI cJ cB h v i j a b) H → va_D A (MW cI cJ cB h v i j a b) → va_S A s.heap H locs → lv_has ls 8 [(0, .ref h), (1, .long v1), (3, .int v3), (4, .int v4)] → W p l e ({ frames := 3, cells := 0, slots := 0, locals := 84 } : Room) s m args below meth c H locs 0 0 (MQ below (va_Ql (xR r2) (yB dC dI cI cJ cB h v i2 j2 a2 b2 A) A) args s 0 0 A) (F0 m 95 ls []) := by
  have htt : ∀ w ∈ tw_T, w.before _ s = true := fun w h => hts w (List.mem_cons_of_mem _ h)
  intro f
  induction f with
  | zero =>
    intro i j a b v1 v3 v4 hm
    rw [m_Model_tidy_b95] at hm
    cases hm
  | succ f ih =>
    intro i j a b v1 v3 v4 hm H locs ls hP hD hS hl
    rw [m_Model_tidy_b95] at hm
    refine lv_iload hx hb d_Model_tidy_95 (lv_at hl 3 rfl) ?_
    refine lv_aload_n hx hb d_Model_tidy_97 rfl (lv_at hl 0 rfl) ?_
    refine va_get (D := (dC, dI)) (ci := 12) (v := .ref ((v 30))) (C := R_Model) (T := F_Model) (N := 127) hx hb htt iw_Model hown hK hP 0 yo_12 rfl 30 (Nat.le_of_ble_eq_true rfl) (htt _ lk_Model_186) (fun _ h9 => h9) yg_30 d_Model_tidy_98 ?_
    refine lv_iload_n hx hb d_Model_tidy_101 rfl (lv_at hl 2 rfl) ?_
    obtain ⟨h_1, hm⟩ := ck_some hm
    refine va_iald hx hb hK hP 24 0 ya_30 rfl h_1 d_Model_tidy_102 ?_
    refine lv_icmp_ge (tgt := 138) hx hb d_Model_tidy_103 (by decide) (fun c_2 => ?_) (fun c_2 => ?_)
    · replace hm := if_t c_2 hm
      refine lv_aload_n hx hb d_Model_tidy_138 rfl (lv_at hl 0 rfl) ?_
      refine va_get (D := (dC, dI)) (ci := 12) (v := .ref ((v 32))) (C := R_Model) (T := F_Model) (N := 127) hx hb htt iw_Model hown hK hP 0 yo_12 rfl 32 (Nat.le_of_ble_eq_true rfl) (htt _ lk_Model_192) (fun _ h9 => h9) yg_32 d_Model_tidy_139 ?_
      refine lv_iload_n hx hb d_Model_tidy_142 rfl (lv_at hl 2 rfl) ?_
      refine lv_aload_n hx hb d_Model_tidy_143 rfl (lv_at hl 0 rfl) ?_
      refine lv_aload_n hx hb d_Model_tidy_144 rfl (lv_at hl 0 rfl) ?_
      refine va_get (D := (dC, dI)) (ci := 12) (v := .ref ((v 32))) (C := R_Model) (T := F_Model) (N := 127) hx hb htt iw_Model hown hK hP 0 yo_12 rfl 32 (Nat.le_of_ble_eq_true rfl) (htt _ lk_Model_192) (fun _ h9 => h9) yg_32 d_Model_tidy_145 ?_
      refine lv_iload_n hx hb d_Model_tidy_148 rfl (lv_at hl 2 rfl) ?_
      obtain ⟨h_3, hm⟩ := ck_some hm
      refine va_lald hx hb hK hP 26 1 ya_32 rfl h_3 d_Model_tidy_149 ?_
      obtain ⟨i_5, j_6, a_7, b_8, r_9, h_4, hm⟩ := om_some hm
      have hFc := x_free hD hS hA
      refine va_calll (va_runV (As := [.long (b 32 v3.toNatClampNeg)]) (rest := [.int v3, .ref ((v 32))]) ⟨hx, hb, hml, hown, hts⟩ (x_Model_move l dC dI cI cJ cB adK adV adA h v H.size n h_4) (cwV 1 hts (tw_GV tw_cons cw_Model_move lk_Model_405 in_Model_move sel_Model_move ini_Model) rfl rfl rfl ⟨rfl, hd_Model_move⟩ ⟨Nat.le_of_ble_eq_true rfl, Nat.le_of_ble_eq_true rfl⟩) (ypV hK hP hD hS hE hFc yo_12 rfl) rfl rfl hl.1 rfl (lv_room (Nat.le_of_ble_eq_true rfl)) d_Model_tidy_150 ⟨Nat.le_of_ble_eq_true rfl, Nat.le_of_ble_eq_true rfl⟩) hS (fun q _ h => hFc q h) hFc (fun r9 u9 t9 H locs ht hvm e9 hB hz1 hk1 hS => ?_)
      have e9 : r_9 = r9 := e9
      subst e9
      obtain ⟨hP, hD⟩ := y_aft hB ht hFc
      clear hFc hk1 hz1 hvm hB ht
      obtain ⟨h_10, hm⟩ := ck_some hm
      refine va_last hx hb hK hP hD hS 26 1 ya_32 rfl h_10 d_Model_tidy_153 (fun H locs hP hD hS => ?_)
      obtain ⟨b_11, eb_11⟩ : ∃ y9 : Nat → Nat → Int64, y9 = svl b_8 32 v3.toNatClampNeg r_9 := ⟨_, rfl⟩
      replace hm := ob1_at eb_11 hm
      obtain ⟨hP, hD⟩ := yv_32 eb_11 hP hD
      obtain ⟨x_12, ex_12⟩ : ∃ y9 : Int32, y9 = v3 + 1 := ⟨_, rfl⟩
      replace hm := ob1_at ex_12 hm
      refine lv_iinc (v := x_12) (lv' := [(3, .int x_12), (0, .ref h), (1, .long v1), (4, .int v4)]) hx hb d_Model_tidy_154 hl (k := 2) rfl (by rw [ex_12]; rfl) (by decide) rfl (fun ls hl => ?_)
      refine lv_goto (tgt := 68) hx hb d_Model_tidy_157 (by decide) ?_
      exact Hrc_68 _ _ _ _ _ _ hm _ _ _ hP hD hS (lv_sub hl [1, 2, 0] rfl)
    · replace hm := if_f c_2 hm
      refine lv_aload_n hx hb d_Model_tidy_106 rfl (lv_at hl 0 rfl) ?_
      refine va_get (D := (dC, dI)) (ci := 12) (v := .ref ((v 31))) (C := R_Model) (T := F_Model) (N := 127) hx hb htt iw_Model hown hK hP 0 yo_12 rfl 31 (Nat.le_of_ble_eq_true rfl) (htt _ lk_Model_189) (fun _ h9 => h9) yg_31 d_Model_tidy_107 ?_
      refine lv_iconst (v := 5) hx hb d_Model_tidy_110 (by decide) ?_
      refine lv_iload_n hx hb d_Model_tidy_111 rfl (lv_at hl 2 rfl) ?_
      refine lv_imul hx hb d_Model_tidy_112 ?_
      refine lv_iload hx hb d_Model_tidy_113 (lv_at hl 3 rfl) ?_
      refine lv_iadd hx hb d_Model_tidy_115 ?_
      refine lv_aload_n hx hb d_Model_tidy_116 rfl (lv_at hl 0 rfl) ?_
      refine lv_aload_n hx hb d_Model_tidy_117 rfl (lv_at hl 0 rfl) ?_
      refine va_get (D := (dC, dI)) (ci := 12) (v := .ref ((v 31))) (C := R_Model) (T := F_Model) (N := 127) hx hb htt iw_Model hown hK hP 0 yo_12 rfl 31 (Nat.le_of_ble_eq_true rfl) (htt _ lk_Model_189) (fun _ h9 => h9) yg_31 d_Model_tidy_118 ?_
      refine lv_iconst (v := 5) hx hb d_Model_tidy_121 (by decide) ?_
      refine lv_iload_n hx hb d_Model_tidy_122 rfl (lv_at hl 2 rfl) ?_
      refine lv_imul hx hb d_Model_tidy_123 ?_
      refine lv_iload hx hb d_Model_tidy_124 (lv_at hl 3 rfl) ?_
      refine lv_iadd hx hb d_Model_tidy_126 ?_
      obtain ⟨h_13, hm⟩ := ck_some hm
      refine va_iald hx hb hK hP 25 0 ya_31 rfl h_13 d_Model_tidy_127 ?_
      obtain ⟨i_15, j_16, a_17, b_18, r_19, h_14, hm⟩ := om_some hm
      have hFc := x_free hD hS hA
      refine va_calli (va_runV (As := [.int (a 31 ((5 * v3) + v4).toNatClampNeg)]) (rest := [.int ((5 * v3) + v4), .ref ((v 31))]) ⟨hx, hb, hml, hown, hts⟩ (x_Model_moveWord l dC dI cI cJ cB adK adV adA h v H.size n h_14) (cwV 1 hts (tw_GV tw_cons cw_Model_moveWord lk_Model_393 in_Model_moveWord sel_Model_moveWord ini_Model) rfl rfl rfl ⟨rfl, hd_Model_moveWord⟩ ⟨Nat.le_of_ble_eq_true rfl, Nat.le_of_ble_eq_true rfl⟩) (ypV hK hP hD hS hE hFc yo_12 rfl) rfl rfl hl.1 rfl (lv_room (Nat.le_of_ble_eq_true rfl)) d_Model_tidy_128 ⟨Nat.le_of_ble_eq_true rfl, Nat.le_of_ble_eq_true rfl⟩) hS (fun q _ h => hFc q h) hFc (fun r9 u9 t9 H locs ht hvm e9 hB hz1 hk1 hS => ?_)
      have e9 : r_19 = r9 := e9
      subst e9
      obtain ⟨hP, hD⟩ := y_aft hB ht hFc
      clear hFc hk1 hz1 hvm hB ht
      obtain ⟨h_20, hm⟩ := ck_some hm
      refine va_iast hx hb hK hP hD hS 25 0 ya_31 rfl h_20 d_Model_tidy_131 (fun H locs hP hD hS => ?_)
      obtain ⟨a_21, ea_21⟩ : ∃ y9 : Nat → Nat → Int32, y9 = sv a_17 31 ((5 * v3) + v4).toNatClampNeg r_19 := ⟨_, rfl⟩
      replace hm := ob1_at ea_21 hm
      obtain ⟨hP, hD⟩ := yv_31 ea_21 hP hD
      obtain ⟨x_22, ex_22⟩ : ∃ y9 : Int32, y9 = v4 + 1 := ⟨_, rfl⟩
      replace hm := ob1_at ex_22 hm
      refine lv_iinc (v := x_22) (lv' := [(4, .int x_22), (0, .ref h), (1, .long v1), (3, .int v3)]) hx hb d_Model_tidy_132 hl (k := 3) rfl (by rw [ex_22]; rfl) (by decide) rfl (fun ls hl => ?_)
      refine lv_goto (tgt := 95) hx hb d_Model_tidy_135 (by decide) ?_
      exact ih _ _ _ _ _ _ _ hm _ _ _ hP hD hS (lv_sub hl [1, 2, 3, 0] rfl)
def m_Model_tidy_b68 (n : Nat) : Nat → (Nat → Int32) → (Nat → Int64) → (Nat → Nat → Int32) → (Nat → Nat → Int64) → Int64 → Int32 → Option ((Nat → Int32) × (Nat → Int64) × (Nat → Nat → Int32) × (Nat → Nat → Int64) × Int64)
  | 0, _, _, _, _, _, _ => none
  | f + 1, i, j, a, b, v1, v3 => if ((i 33)) ≤ v3 then m_Model_tidy_b162 n n i j a b v1 (0 : Int32) else ck v3 40 (om (m_Model_moveWord n i j a b (a 29 v3.toNatClampNeg)) (fun i_4 j_5 a_6 b_7 r_8 => ck v3 40 (ob1 (sv a_6 29 v3.toNatClampNeg r_8 : Nat → Nat → Int32) (fun a_10 => m_Model_tidy_b95 n (m_Model_tidy_b68 n f) n i_4 j_5 a_10 b_7 v1 v3 (0 : Int32)))))
set_option maxHeartbeats 4000000 in
set_option maxRecDepth 100000 in
theorem lb_Model_tidy_68 (l : Launch) (dC : Nat → ClassId) (dI : Nat → Nat → Nat) (cI cJ cB : ClassId) (adK adV adA : Nat → Nat) (h : Nat) (v : Nat → Nat) (n : Nat) {p : Program} {e : Env} {s : State} {m : MethodId} {args : Array Value} {below : List Frame} {meth : Method} {c : Code} {A : Nat → Prop} (hx : p.tables.exec = Jvm.exec) (hb : c.code = b_Model_tidy) (hml : c.maxLocals = 8) (hown : s.vm.findClass R_Model = some m.cls) (hts : ∀ w ∈ w_Model_tidy, w.before args s = true) (hK : va_K (dC, dI) classes [(cI, .int), (cJ, .long), (cB, .byte)] s) (hE : tw_E adK adV adA A s s.heap) (hA : ∀ q : Nat, s.heap.size ≤ q → A q) (hr : meth.sig.returnType = (some .long)) (hlocks : meth.locks = false) {i2 : Nat → Int32} {j2 : Nat → Int64} {a2 : Nat → Nat → Int32} {b2 : Nat → Nat → Int64} {r2 : Int64} : ∀ (f : Nat) (i : Nat → Int32) (j : Nat → Int64) (a : Nat → Nat → Int32) (b : Nat → Nat → Int64) (v1 : Int64) (v3 : Int32), m_Model_tidy_b68 n f i j a b v1 v3 = some (i2, j2, a2, b2, r2) → ∀ (H : Heap) (locs : List Loc) (ls : Array Slot), va_P (dC, dI) classes (MW cI cJ cB h v i j a b) H → va_D A (MW cI cJ cB h v i j a b) → va_S A s.heap H locs → lv_has ls 8 [(0, .ref h), (1, .long v1), (3, .int v3)] → W p l e ({ frames := 3, cells := 0, slots := 0, locals := 84 } : Room) s m args below meth c H locs 0 0 (MQ below (va_Ql (xR r2) (yB dC dI cI cJ cB h v i2 j2 a2 b2 A) A) args s 0 0 A) (F0 m 68 ls []) := by
  have htt : ∀ w ∈ tw_T, w.before _ s = true := fun w h => hts w (List.mem_cons_of_mem _ h)
  intro f
  induction f with
  | zero =>
    intro i j a b v1 v3 hm
    rw [m_Model_tidy_b68] at hm
    cases hm
  | succ f ih =>
    intro i j a b v1 v3 hm H locs ls hP hD hS hl
    rw [m_Model_tidy_b68] at hm
    refine lv_iload_n hx hb d_Model_tidy_68 rfl (lv_at hl 2 rfl) ?_
    refine lv_aload_n hx hb d_Model_tidy_69 rfl (lv_at hl 0 rfl) ?_
    refine va_get (D := (dC, dI)) (ci := 12) (v := .int (i 33)) (C := R_Model) (T := F_Model) (N := 127) hx hb htt iw_Model hown hK hP 0 yo_12 rfl 33 (Nat.le_of_ble_eq_true rfl) (htt _ lk_Model_344) (fun _ h9 => h9) yg_33 d_Model_tidy_70 ?_
    refine lv_icmp_ge (tgt := 160) hx hb d_Model_tidy_73 (by decide) (fun c_1 => ?_) (fun c_1 => ?_)
    · replace hm := if_t c_1 hm
      refine lv_iconst (v := 0) hx hb d_Model_tidy_160 (by decide) ?_
      refine lv_istore_n (lv' := [(3, .int 0), (0, .ref h), (1, .long v1)]) hx hb d_Model_tidy_161 rfl hl (by decide) rfl (fun ls hl => ?_)
      exact lb_Model_tidy_162 l dC dI cI cJ cB adK adV adA h v n hx hb hml hown hts hK hE hA hr hlocks n _ _ _ _ _ _ hm _ _ _ hP hD hS (lv_sub hl [1, 2, 0] rfl)
    · replace hm := if_f c_1 hm
      refine lv_aload_n hx hb d_Model_tidy_76 rfl (lv_at hl 0 rfl) ?_
      refine va_get (D := (dC, dI)) (ci := 12) (v := .ref ((v 29))) (C := R_Model) (T := F_Model) (N := 127) hx hb htt iw_Model hown hK hP 0 yo_12 rfl 29 (Nat.le_of_ble_eq_true rfl) (htt _ lk_Model_183) (fun _ h9 => h9) yg_29 d_Model_tidy_77 ?_
      refine lv_iload_n hx hb d_Model_tidy_80 rfl (lv_at hl 2 rfl) ?_
      refine lv_aload_n hx hb d_Model_tidy_81 rfl (lv_at hl 0 rfl) ?_
      refine lv_aload_n hx hb d_Model_tidy_82 rfl (lv_at hl 0 rfl) ?_
      refine va_get (D := (dC, dI)) (ci := 12) (v := .ref ((v 29))) (C := R_Model) (T := F_Model) (N := 127) hx hb htt iw_Model hown hK hP 0 yo_12 rfl 29 (Nat.le_of_ble_eq_true rfl) (htt _ lk_Model_183) (fun _ h9 => h9) yg_29 d_Model_tidy_83 ?_
      refine lv_iload_n hx hb d_Model_tidy_86 rfl (lv_at hl 2 rfl) ?_
      obtain ⟨h_2, hm⟩ := ck_some hm
      refine va_iald hx hb hK hP 23 0 ya_29 rfl h_2 d_Model_tidy_87 ?_
      obtain ⟨i_4, j_5, a_6, b_7, r_8, h_3, hm⟩ := om_some hm
      have hFc := x_free hD hS hA
      refine va_calli (va_runV (As := [.int (a 29 v3.toNatClampNeg)]) (rest := [.int v3, .ref ((v 29))]) ⟨hx, hb, hml, hown, hts⟩ (x_Model_moveWord l dC dI cI cJ cB adK adV adA h v H.size n h_3) (cwV 1 hts (tw_GV tw_cons cw_Model_moveWord lk_Model_393 in_Model_moveWord sel_Model_moveWord ini_Model) rfl rfl rfl ⟨rfl, hd_Model_moveWord⟩ ⟨Nat.le_of_ble_eq_true rfl, Nat.le_of_ble_eq_true rfl⟩) (ypV hK hP hD hS hE hFc yo_12 rfl) rfl rfl hl.1 rfl (lv_room (Nat.le_of_ble_eq_true rfl)) d_Model_tidy_88 ⟨Nat.le_of_ble_eq_true rfl, Nat.le_of_ble_eq_true rfl⟩) hS (fun q _ h => hFc q h) hFc (fun r9 u9 t9 H locs ht hvm e9 hB hz1 hk1 hS => ?_)
      have e9 : r_8 = r9 := e9
      subst e9
      obtain ⟨hP, hD⟩ := y_aft hB ht hFc
      clear hFc hk1 hz1 hvm hB ht
      obtain ⟨h_9, hm⟩ := ck_some hm
      refine va_iast hx hb hK hP hD hS 23 0 ya_29 rfl h_9 d_Model_tidy_91 (fun H locs hP hD hS => ?_)
      obtain ⟨a_10, ea_10⟩ : ∃ y9 : Nat → Nat → Int32, y9 = sv a_6 29 v3.toNatClampNeg r_8 := ⟨_, rfl⟩
      replace hm := ob1_at ea_10 hm
      obtain ⟨hP, hD⟩ := yv_29 ea_10 hP hD
      refine lv_iconst (v := 0) hx hb d_Model_tidy_92 (by decide) ?_
      refine lv_istore (lv' := [(4, .int 0), (0, .ref h), (1, .long v1), (3, .int v3)]) hx hb d_Model_tidy_93 hl (by decide) rfl (fun ls hl => ?_)
      exact lb_Model_tidy_95 l dC dI cI cJ cB adK adV adA h v n hx hb hml hown hts hK hE hA hr hlocks (m_Model_tidy_b68 n f) ih n _ _ _ _ _ _ _ hm _ _ _ hP hD hS (lv_sub hl [1, 2, 3, 0] rfl)
def m_Model_tidy_b25 (n : Nat) : Nat → (Nat → Int32) → (Nat → Int64) → (Nat → Nat → Int32) → (Nat → Nat → Int64) → Int64 → Int32 → Option ((Nat → Int32) × (Nat → Int64) × (Nat → Nat → Int32) × (Nat → Nat → Int64) × Int64)
  | 0, _, _, _, _, _, _ => none
  | f + 1, i, j, a, b, v1, v3 => if ((i 21)) ≤ v3 then ob1 (upd i 67 0 : Nat → Int32) (fun i_2 => ob1 (upd i_2 68 0 : Nat → Int32) (fun i_3 => ob1 (upd i_3 69 0 : Nat → Int32) (fun i_4 => ob1 (upd i_4 70 0 : Nat → Int32) (fun i_5 => m_Model_tidy_b68 n n i_5 j a b v1 (0 : Int32))))) else ck v3 90000 (ob1 (sv a 17 v3.toNatClampNeg ((-1)) : Nat → Nat → Int32) (fun a_7 => ob1 (v3 + 1 : Int32) (fun x_8 => m_Model_tidy_b25 n f i j a_7 b v1 x_8)))
set_option maxHeartbeats 4000000 in
set_option maxRecDepth 100000 in
theorem lb_Model_tidy_25 (l : Launch) (dC : Nat → ClassId) (dI : Nat → Nat → Nat) (cI cJ cB : ClassId) (adK adV adA : Nat → Nat) (h : Nat) (v : Nat → Nat) (n : Nat) {p : Program} {e : Env} {s : State} {m : MethodId} {args : Array Value} {below : List Frame} {meth : Method} {c : Code} {A : Nat → Prop} (hx : p.tables.exec = Jvm.exec) (hb : c.code = b_Model_tidy) (hml : c.maxLocals = 8) (hown : s.vm.findClass R_Model = some m.cls) (hts : ∀ w ∈ w_Model_tidy, w.before args s = true) (hK : va_K (dC, dI) classes [(cI, .int), (cJ, .long), (cB, .byte)] s) (hE : tw_E adK adV adA A s s.heap) (hA : ∀ q : Nat, s.heap.size ≤ q → A q) (hr : meth.sig.returnType = (some .long)) (hlocks : meth.locks = false) {i2 : Nat → Int32} {j2 : Nat → Int64} {a2 : Nat → Nat → Int32} {b2 : Nat → Nat → Int64} {r2 : Int64} : ∀ (f : Nat) (i : Nat → Int32) (j : Nat → Int64) (a : Nat → Nat → Int32) (b : Nat → Nat → Int64) (v1 : Int64) (v3 : Int32), m_Model_tidy_b25 n f i j a b v1 v3 = some (i2, j2, a2, b2, r2) → ∀ (H : Heap) (locs : List Loc) (ls : Array Slot), va_P (dC, dI) classes (MW cI cJ cB h v i j a b) H → va_D A (MW cI cJ cB h v i j a b) → va_S A s.heap H locs → lv_has ls 8 [(0, .ref h), (1, .long v1), (3, .int v3)] → W p l e ({ frames := 3, cells := 0, slots := 0, locals := 84 } : Room) s m args below meth c H locs 0 0 (MQ below (va_Ql (xR r2) (yB dC dI cI cJ cB h v i2 j2 a2 b2 A) A) args s 0 0 A) (F0 m 25 ls []) := by
  have htt : ∀ w ∈ tw_T, w.before _ s = true := fun w h => hts w (List.mem_cons_of_mem _ h)
  intro f
  induction f with
  | zero =>
    intro i j a b v1 v3 hm
    rw [m_Model_tidy_b25] at hm
    cases hm
  | succ f ih =>
    intro i j a b v1 v3 hm H locs ls hP hD hS hl
    rw [m_Model_tidy_b25] at hm
    refine lv_iload_n hx hb d_Model_tidy_25 rfl (lv_at hl 2 rfl) ?_
    refine lv_aload_n hx hb d_Model_tidy_26 rfl (lv_at hl 0 rfl) ?_
    refine va_get (D := (dC, dI)) (ci := 12) (v := .int (i 21)) (C := R_Model) (T := F_Model) (N := 127) hx hb htt iw_Model hown hK hP 0 yo_12 rfl 21 (Nat.le_of_ble_eq_true rfl) (htt _ lk_Model_44) (fun _ h9 => h9) yg_21 d_Model_tidy_27 ?_
    refine lv_icmp_ge (tgt := 46) hx hb d_Model_tidy_30 (by decide) (fun c_1 => ?_) (fun c_1 => ?_)
    · replace hm := if_t c_1 hm
      refine lv_aload_n hx hb d_Model_tidy_46 rfl (lv_at hl 0 rfl) ?_
      refine lv_iconst (v := 0) hx hb d_Model_tidy_47 (by decide) ?_
      refine va_put (D := (dC, dI)) (ci := 12) (v := .int 0) (ty := .int) (C := R_Model) (T := F_Model) (N := 127) hx hb htt iw_Model t_Model t_Model_ok n_Model hown hK hP hD hS 0 yo_12 rfl 67 (Nat.le_of_ble_eq_true rfl) (htt _ lk_Model_390) (fun _ h9 => h9) rfl (by decide +kernel) rfl rfl yl_67 d_Model_tidy_48 (fun H locs hP hD hS => ?_)
      obtain ⟨i_2, ei_2⟩ : ∃ y9 : Nat → Int32, y9 = upd i 67 0 := ⟨_, rfl⟩
      replace hm := ob1_at ei_2 hm
      obtain ⟨hP, hD⟩ := yw_67 ei_2 hP hD
      refine lv_aload_n hx hb d_Model_tidy_51 rfl (lv_at hl 0 rfl) ?_
      refine lv_iconst (v := 0) hx hb d_Model_tidy_52 (by decide) ?_
      refine va_put (D := (dC, dI)) (ci := 12) (v := .int 0) (ty := .int) (C := R_Model) (T := F_Model) (N := 127) hx hb htt iw_Model t_Model t_Model_ok n_Model hown hK hP hD hS 0 yo_12 rfl 68 (Nat.le_of_ble_eq_true rfl) (htt _ lk_Model_387) (fun _ h9 => h9) rfl (by decide +kernel) rfl rfl yl_68 d_Model_tidy_53 (fun H locs hP hD hS => ?_)
      obtain ⟨i_3, ei_3⟩ : ∃ y9 : Nat → Int32, y9 = upd i_2 68 0 := ⟨_, rfl⟩
      replace hm := ob1_at ei_3 hm
      obtain ⟨hP, hD⟩ := yw_68 ei_3 hP hD
      refine lv_aload_n hx hb d_Model_tidy_56 rfl (lv_at hl 0 rfl) ?_
      refine lv_iconst (v := 0) hx hb d_Model_tidy_57 (by decide) ?_
      refine va_put (D := (dC, dI)) (ci := 12) (v := .int 0) (ty := .int) (C := R_Model) (T := F_Model) (N := 127) hx hb htt iw_Model t_Model t_Model_ok n_Model hown hK hP hD hS 0 yo_12 rfl 69 (Nat.le_of_ble_eq_true rfl) (htt _ lk_Model_402) (fun _ h9 => h9) rfl (by decide +kernel) rfl rfl yl_69 d_Model_tidy_58 (fun H locs hP hD hS => ?_)
      obtain ⟨i_4, ei_4⟩ : ∃ y9 : Nat → Int32, y9 = upd i_3 69 0 := ⟨_, rfl⟩
      replace hm := ob1_at ei_4 hm
      obtain ⟨hP, hD⟩ := yw_69 ei_4 hP hD
      refine lv_aload_n hx hb d_Model_tidy_61 rfl (lv_at hl 0 rfl) ?_
      refine lv_iconst (v := 0) hx hb d_Model_tidy_62 (by decide) ?_
      refine va_put (D := (dC, dI)) (ci := 12) (v := .int 0) (ty := .int) (C := R_Model) (T := F_Model) (N := 127) hx hb htt iw_Model t_Model t_Model_ok n_Model hown hK hP hD hS 0 yo_12 rfl 70 (Nat.le_of_ble_eq_true rfl) (htt _ lk_Model_399) (fun _ h9 => h9) rfl (by decide +kernel) rfl rfl yl_70 d_Model_tidy_63 (fun H locs hP hD hS => ?_)
      obtain ⟨i_5, ei_5⟩ : ∃ y9 : Nat → Int32, y9 = upd i_4 70 0 := ⟨_, rfl⟩
      replace hm := ob1_at ei_5 hm
      obtain ⟨hP, hD⟩ := yw_70 ei_5 hP hD
      refine lv_iconst (v := 0) hx hb d_Model_tidy_66 (by decide) ?_
      refine lv_istore_n (lv' := [(3, .int 0), (0, .ref h), (1, .long v1)]) hx hb d_Model_tidy_67 rfl hl (by decide) rfl (fun ls hl => ?_)
      exact lb_Model_tidy_68 l dC dI cI cJ cB adK adV adA h v n hx hb hml hown hts hK hE hA hr hlocks n _ _ _ _ _ _ hm _ _ _ hP hD hS (lv_sub hl [1, 2, 0] rfl)
    · replace hm := if_f c_1 hm
      refine lv_aload_n hx hb d_Model_tidy_33 rfl (lv_at hl 0 rfl) ?_
      refine va_get (D := (dC, dI)) (ci := 12) (v := .ref ((v 17))) (C := R_Model) (T := F_Model) (N := 127) hx hb htt iw_Model hown hK hP 0 yo_12 rfl 17 (Nat.le_of_ble_eq_true rfl) (htt _ lk_Model_179) (fun _ h9 => h9) yg_17 d_Model_tidy_34 ?_
      refine lv_iload_n hx hb d_Model_tidy_37 rfl (lv_at hl 2 rfl) ?_
      refine lv_iconst (v := -1) hx hb d_Model_tidy_38 (by decide) ?_
      obtain ⟨h_6, hm⟩ := ck_some hm
      refine va_iast hx hb hK hP hD hS 17 0 ya_17 rfl h_6 d_Model_tidy_39 (fun H locs hP hD hS => ?_)
      obtain ⟨a_7, ea_7⟩ : ∃ y9 : Nat → Nat → Int32, y9 = sv a 17 v3.toNatClampNeg ((-1)) := ⟨_, rfl⟩
      replace hm := ob1_at ea_7 hm
      obtain ⟨hP, hD⟩ := yv_17 ea_7 hP hD
      obtain ⟨x_8, ex_8⟩ : ∃ y9 : Int32, y9 = v3 + 1 := ⟨_, rfl⟩
      replace hm := ob1_at ex_8 hm
      refine lv_iinc (v := x_8) (lv' := [(3, .int x_8), (0, .ref h), (1, .long v1)]) hx hb d_Model_tidy_40 hl (k := 2) rfl (by rw [ex_8]; rfl) (by decide) rfl (fun ls hl => ?_)
      refine lv_goto (tgt := 25) hx hb d_Model_tidy_43 (by decide) ?_
      exact ih _ _ _ _ _ _ hm _ _ _ hP hD hS (lv_sub hl [1, 2, 0] rfl)
def m_Model_tidy_b2 (n : Nat) : Nat → (Nat → Int32) → (Nat → Int64) → (Nat → Nat → Int32) → (Nat → Nat → Int64) → Int64 → Int32 → Option ((Nat → Int32) × (Nat → Int64) × (Nat → Nat → Int32) × (Nat → Nat → Int64) × Int64)
  | 0, _, _, _, _, _, _ => none
  | f + 1, i, j, a, b, v1, v3 => if ((i 19)) ≤ v3 then m_Model_tidy_b25 n n i j a b v1 (0 : Int32) else ck v3 120000 (ob1 (sv a 8 v3.toNatClampNeg ((-1)) : Nat → Nat → Int32) (fun a_3 => ob1 (v3 + 1 : Int32) (fun x_4 => m_Model_tidy_b2 n f i j a_3 b v1 x_4)))
set_option maxHeartbeats 4000000 in
set_option maxRecDepth 100000 in
theorem lb_Model_tidy_2 (l : Launch) (dC : Nat → ClassId) (dI : Nat → Nat → Nat) (cI cJ cB : ClassId) (adK adV adA : Nat → Nat) (h : Nat) (v : Nat → Nat) (n : Nat) {p : Program} {e : Env} {s : State} {m : MethodId} {args : Array Value} {below : List Frame} {meth : Method} {c : Code} {A : Nat → Prop} (hx : p.tables.exec = Jvm.exec) (hb : c.code = b_Model_tidy) (hml : c.maxLocals = 8) (hown : s.vm.findClass R_Model = some m.cls) (hts : ∀ w ∈ w_Model_tidy, w.before args s = true) (hK : va_K (dC, dI) classes [(cI, .int), (cJ, .long), (cB, .byte)] s) (hE : tw_E adK adV adA A s s.heap) (hA : ∀ q : Nat, s.heap.size ≤ q → A q) (hr : meth.sig.returnType = (some .long)) (hlocks : meth.locks = false) {i2 : Nat → Int32} {j2 : Nat → Int64} {a2 : Nat → Nat → Int32} {b2 : Nat → Nat → Int64} {r2 : Int64} : ∀ (f : Nat) (i : Nat → Int32) (j : Nat → Int64) (a : Nat → Nat → Int32) (b : Nat → Nat → Int64) (v1 : Int64) (v3 : Int32), m_Model_tidy_b2 n f i j a b v1 v3 = some (i2, j2, a2, b2, r2) → ∀ (H : Heap) (locs : List Loc) (ls : Array Slot), va_P (dC, dI) classes (MW cI cJ cB h v i j a b) H → va_D A (MW cI cJ cB h v i j a b) → va_S A s.heap H locs → lv_has ls 8 [(0, .ref h), (1, .long v1), (3, .int v3)] → W p l e ({ frames := 3, cells := 0, slots := 0, locals := 84 } : Room) s m args below meth c H locs 0 0 (MQ below (va_Ql (xR r2) (yB dC dI cI cJ cB h v i2 j2 a2 b2 A) A) args s 0 0 A) (F0 m 2 ls []) := by
  have htt : ∀ w ∈ tw_T, w.before _ s = true := fun w h => hts w (List.mem_cons_of_mem _ h)
  intro f
  induction f with
  | zero =>
    intro i j a b v1 v3 hm
    rw [m_Model_tidy_b2] at hm
    cases hm
  | succ f ih =>
    intro i j a b v1 v3 hm H locs ls hP hD hS hl
    rw [m_Model_tidy_b2] at hm
    refine lv_iload_n hx hb d_Model_tidy_2 rfl (lv_at hl 2 rfl) ?_
    refine lv_aload_n hx hb d_Model_tidy_3 rfl (lv_at hl 0 rfl) ?_
    refine va_get (D := (dC, dI)) (ci := 12) (v := .int (i 19)) (C := R_Model) (T := F_Model) (N := 127) hx hb htt iw_Model hown hK hP 0 yo_12 rfl 19 (Nat.le_of_ble_eq_true rfl) (htt _ lk_Model_19) (fun _ h9 => h9) yg_19 d_Model_tidy_4 ?_
    refine lv_icmp_ge (tgt := 23) hx hb d_Model_tidy_7 (by decide) (fun c_1 => ?_) (fun c_1 => ?_)
    · replace hm := if_t c_1 hm
      refine lv_iconst (v := 0) hx hb d_Model_tidy_23 (by decide) ?_
      refine lv_istore_n (lv' := [(3, .int 0), (0, .ref h), (1, .long v1)]) hx hb d_Model_tidy_24 rfl hl (by decide) rfl (fun ls hl => ?_)
      exact lb_Model_tidy_25 l dC dI cI cJ cB adK adV adA h v n hx hb hml hown hts hK hE hA hr hlocks n _ _ _ _ _ _ hm _ _ _ hP hD hS (lv_sub hl [1, 2, 0] rfl)
    · replace hm := if_f c_1 hm
      refine lv_aload_n hx hb d_Model_tidy_10 rfl (lv_at hl 0 rfl) ?_
      refine va_get (D := (dC, dI)) (ci := 12) (v := .ref ((v 8))) (C := R_Model) (T := F_Model) (N := 127) hx hb htt iw_Model hown hK hP 0 yo_12 rfl 8 (Nat.le_of_ble_eq_true rfl) (htt _ lk_Model_166) (fun _ h9 => h9) yg_8 d_Model_tidy_11 ?_
      refine lv_iload_n hx hb d_Model_tidy_14 rfl (lv_at hl 2 rfl) ?_
      refine lv_iconst (v := -1) hx hb d_Model_tidy_15 (by decide) ?_
      obtain ⟨h_2, hm⟩ := ck_some hm
      refine va_iast hx hb hK hP hD hS 8 0 ya_8 rfl h_2 d_Model_tidy_16 (fun H locs hP hD hS => ?_)
      obtain ⟨a_3, ea_3⟩ : ∃ y9 : Nat → Nat → Int32, y9 = sv a 8 v3.toNatClampNeg ((-1)) := ⟨_, rfl⟩
      replace hm := ob1_at ea_3 hm
      obtain ⟨hP, hD⟩ := yv_8 ea_3 hP hD
      obtain ⟨x_4, ex_4⟩ : ∃ y9 : Int32, y9 = v3 + 1 := ⟨_, rfl⟩
      replace hm := ob1_at ex_4 hm
      refine lv_iinc (v := x_4) (lv' := [(3, .int x_4), (0, .ref h), (1, .long v1)]) hx hb d_Model_tidy_17 hl (k := 2) rfl (by rw [ex_4]; rfl) (by decide) rfl (fun ls hl => ?_)
      refine lv_goto (tgt := 2) hx hb d_Model_tidy_20 (by decide) ?_
      exact ih _ _ _ _ _ _ hm _ _ _ hP hD hS (lv_sub hl [1, 2, 0] rfl)
def m_Model_tidy (n : Nat) (i : Nat → Int32) (j : Nat → Int64) (a : Nat → Nat → Int32) (b : Nat → Nat → Int64) (v1 : Int64) : Option ((Nat → Int32) × (Nat → Int64) × (Nat → Nat → Int32) × (Nat → Nat → Int64) × Int64) := m_Model_tidy_b2 n n i j a b v1 (0 : Int32)
set_option maxHeartbeats 4000000 in
set_option maxRecDepth 100000 in
theorem x_Model_tidy (l : Launch) (dC : Nat → ClassId) (dI : Nat → Nat → Nat) (cI cJ cB : ClassId) (adK adV adA : Nat → Nat) (h : Nat) (v : Nat → Nat) (sz : Nat) (n : Nat) {i : Nat → Int32} {j : Nat → Int64} {a : Nat → Nat → Int32} {b : Nat → Nat → Int64} {v1 : Int64} {i2 : Nat → Int32} {j2 : Nat → Int64} {a2 : Nat → Nat → Int32} {b2 : Nat → Nat → Int64} {r2 : Int64} (hm : m_Model_tidy n i j a b v1 = some (i2, j2, a2, b2, r2)) : Met l y_Model_tidy w_Model_tidy ({ frames := 3, cells := 0, slots := 0, locals := 84 } : Room) (va_Pc [.ref h, .long v1] (yE dC dI cI cJ cB adK adV adA h v i j a b sz)) (va_Ql (xR r2) (yB dC dI cI cJ cB h v i2 j2 a2 b2 (va_A (MW cI cJ cB h v i j a b) sz)) (va_A (MW cI cJ cB h v i j a b) sz)) 0 0 ((va_A (MW cI cJ cB h v i j a b) sz)) := by
  refine Met.ofW (cc := b_Model_tidy) (maxL := 8) (ret := (some .long)) (by decide) rfl ?_
  intro p e s m args below meth c s₁ B hml hv
  obtain ⟨rfl, hsz, hP, hK, hE, hD0⟩ := hv
  have hx := B.exec
  have hb := B.bytes
  have hr := B.returns
  have hts := atoms_spec (ws := w_Model_tidy) B.pre
  have htt : ∀ w ∈ tw_T, w.before _ s = true := fun w h => hts w (List.mem_cons_of_mem _ h)
  have hown : s.vm.findClass R_Model = some m.cls := findClass_of_methodNamed B.named
  have hlocks := B.notSynchronized
  subst hsz
  have hD := hD0.self (sz := s.heap.size)
  generalize hAe : (va_A (MW cI cJ cB h v i j a b) s.heap.size) = A at hD hE ⊢
  have hA : ∀ q : Nat, s.heap.size ≤ q → A q := fun q h => by rw [← hAe]; exact Or.inr h
  have hS : va_S A s.heap s.heap [] := va_S.rf
  have hl := lv_entry ([.ref h, .long v1]) (n := 8) (Nat.le_of_ble_eq_true rfl)
  rw [lg_entry_eq]
  generalize (lg_sl ([.ref h, .long v1]) ++ List.replicate (8 - (lg_sl ([.ref h, .long v1])).length) Slot.unset).toArray = ls at hl ⊢
  have hl : lv_has ls 8 [(0, .ref h), (1, .long v1)] := hl
  rw [m_Model_tidy] at hm
  refine lv_iconst (v := 0) hx hb d_Model_tidy_0 (by decide) ?_
  refine lv_istore_n (lv' := [(3, .int 0), (0, .ref h), (1, .long v1)]) hx hb d_Model_tidy_1 rfl hl (by decide) rfl (fun ls hl => ?_)
  exact lb_Model_tidy_2 l dC dI cI cJ cB adK adV adA h v n hx hb hml hown hts hK hE hA hr hlocks n _ _ _ _ _ _ hm _ _ _ hP hD hS (lv_sub hl [1, 2, 0] rfl)

def m_Model_fits_b126 (n : Nat) (rc_2 : (Nat → Int32) → (Nat → Int64) → (Nat → Nat → Int32) → (Nat → Nat → Int64) → Int32 → Nat → Int32 → Option ((Nat → Int32) × (Nat → Int64) × (Nat → Nat → Int32) × (Nat → Nat → Int64) × Int32)) (i : Nat → Int32) (j : Nat → Int64) (a : Nat → Nat → Int32) (b : Nat → Nat → Int64) (v1 : Int32) (t2 : Nat) (v3 : Int32) (s0 : Int32) : Option ((Nat → Int32) × (Nat → Int64) × (Nat → Nat → Int32) × (Nat → Nat → Int64) × Int32) := ct t2 (if s0 = ((0 : Int32)) then om (m_Model_fails n i j a b (3 : Int32)) (fun i_4 j_5 a_6 b_7 r_8 => some (i_4, j_5, a_6, b_7, 0)) else ob1 (v3 + 1 : Int32) (fun x_2 => rc_2 i j a b v1 t2 x_2))
set_option maxHeartbeats 4000000 in
set_option maxRecDepth 100000 in
theorem lb_Model_fits_126 (l : Launch) (dC : Nat → ClassId) (dI : Nat → Nat → Nat) (cI cJ cB : ClassId) (adK adV adA : Nat → Nat) (h : Nat) (v : Nat → Nat) (n : Nat) {p : Program} {e : Env} {s : State} {m : MethodId} {args : Array Value} {below : List Frame} {meth : Method} {c : Code} {A : Nat → Prop} (hx : p.tables.exec = Jvm.exec) (hb : c.code = b_Model_fits) (hml : c.maxLocals = 8) (hown : s.vm.findClass R_Model = some m.cls) (hts : ∀ w ∈ w_Model_fits, w.before args s = true) (hK : va_K (dC, dI) classes [(cI, .int), (cJ, .long), (cB, .byte)] s) (hE : tw_E adK adV adA A s s.heap) (hA : ∀ q : Nat, s.heap.size ≤ q → A q) (hr : meth.sig.returnType = (some .boolean)) (hlocks : meth.locks = false) {i2 : Nat → Int32} {j2 : Nat → Int64} {a2 : Nat → Nat → Int32} {b2 : Nat → Nat → Int64} {r2 : Int32} (rc_2 : (Nat → Int32) → (Nat → Int64) → (Nat → Nat → Int32) → (Nat → Nat → Int64) → Int32 → Nat → Int32 → Option ((Nat → Int32) × (Nat → Int64) × (Nat → Nat → Int32) × (Nat → Nat → Int64) × Int32)) (Hrc_2 : ∀ (i : Nat → Int32) (j : Nat → Int64) (a : Nat → Nat → Int32) (b : Nat → Nat → Int64) (v1 : Int32) (t2 : Nat) (v3 : Int32), rc_2 i j a b v1 t2 v3 = some (i2, j2, a2, b2, r2) → ∀ (H : Heap) (locs : List Loc) (ls : Array Slot), va_P (dC, dI) classes (MW cI cJ cB h v i j a b) H → va_D A (MW cI cJ cB h v i j a b) → va_S A s.heap H locs → lv_has ls 8 [(0, .ref h), (1, .int v1), (2, .ref ((adK t2))), (3, .int v3)] → W p l e ({ frames := 6, cells := 0, slots := 0, locals := 130 } : Room) s m args below meth c H locs 0 0 (MQ below (va_Qi (xR r2) (yB dC dI cI cJ cB h v i2 j2 a2 b2 A) A) args s 0 0 A) (F0 m 2 ls [])) (i : Nat → Int32) (j : Nat → Int64) (a : Nat → Nat → Int32) (b : Nat → Nat → Int64) (v1 : Int32) (t2 : Nat) (v3 : Int32) (s0 : Int32) (hm : m_Model_fits_b126 n rc_2 i j a b v1 t2 v3 s0 = some (i2, j2, a2, b2, r2)) : ∀ (H : Heap) (locs : List Loc) (ls : Array Slot), va_P (dC, dI) classes (MW cI cJ cB h v i j a b) H → va_D A (MW cI cJ cB h v i j a b) → va_S A s.heap H locs → lv_has ls 8 [(0, .ref h), (1, .int v1), (2, .ref ((adK t2))), (3, .int v3)] → W p l e ({ frames := 6, cells := 0, slots := 0, locals := 130 } : Room) s m args below meth c H locs 0 0 (MQ below (va_Qi (xR r2) (yB dC dI cI cJ cB h v i2 j2 a2 b2 A) A) args s 0 0 A) (F0 m 126 ls [.int s0]) := by
  have htt : ∀ w ∈ tw_T, w.before _ s = true := fun w h => hts w (List.mem_cons_of_mem _ h)
  intro H locs ls hP hD hS hl
  rw [m_Model_fits_b126] at hm
  obtain ⟨ht2, hm⟩ := ct_some hm
  refine lv_istore (lv' := [(7, .int s0), (0, .ref h), (1, .int v1), (2, .ref ((adK t2))), (3, .int v3)]) hx hb d_Model_fits_126 hl (by decide) rfl (fun ls hl => ?_)
  refine lv_iload hx hb d_Model_fits_128 (lv_at hl 0 rfl) ?_
  refine lv_if_ne (tgt := 141) hx hb d_Model_fits_130 (by decide) (fun c_1 => ?_) (fun c_1 => ?_)
  · replace hm := if_f c_1 hm
    obtain ⟨x_2, ex_2⟩ : ∃ y9 : Int32, y9 = v3 + 1 := ⟨_, rfl⟩
    replace hm := ob1_at ex_2 hm
    refine lv_iinc (v := x_2) (lv' := [(3, .int x_2), (7, .int s0), (0, .ref h), (1, .int v1), (2, .ref ((adK t2)))]) hx hb d_Model_fits_141 hl (k := 4) rfl (by rw [ex_2]; rfl) (by decide) rfl (fun ls hl => ?_)
    refine lv_goto (tgt := 2) hx hb d_Model_fits_144 (by decide) ?_
    exact Hrc_2 _ _ _ _ _ _ _ hm _ _ _ hP hD hS (lv_sub hl [2, 3, 4, 0] rfl)
  · replace hm := if_t c_1 hm
    refine lv_aload_n hx hb d_Model_fits_133 rfl (lv_at hl 1 rfl) ?_
    refine lv_iconst (v := 3) hx hb d_Model_fits_134 (by decide) ?_
    obtain ⟨i_4, j_5, a_6, b_7, r_8, h_3, hm⟩ := om_some hm
    have hFc := x_free hD hS hA
    refine va_calll (va_runV (As := [.int 3]) (rest := []) ⟨hx, hb, hml, hown, hts⟩ (x_Model_fails l dC dI cI cJ cB adK adV adA h v H.size n h_3) (cwV 1 hts (tw_GV tw_cons cw_Model_fails lk_Model_596 in_Model_fails sel_Model_fails ini_Model) rfl rfl rfl ⟨rfl, hd_Model_fails⟩ ⟨Nat.le_of_ble_eq_true rfl, Nat.le_of_ble_eq_true rfl⟩) (ypV hK hP hD hS hE hFc yo_12 rfl) rfl rfl hl.1 rfl (lv_room (Nat.le_of_ble_eq_true rfl)) d_Model_fits_135 ⟨Nat.le_of_ble_eq_true rfl, Nat.le_of_ble_eq_true rfl⟩) hS (fun q _ h => hFc q h) hFc (fun r9 u9 t9 H locs ht hvm e9 hB hz1 hk1 hS => ?_)
    have e9 : r_8 = r9 := e9
    subst e9
    obtain ⟨hP, hD⟩ := y_aft hB ht hFc
    clear hFc hk1 hz1 hvm hB ht
    refine lv_pop2_2 hx hb d_Model_fits_138 rfl ?_
    refine lv_iconst (v := 0) hx hb d_Model_fits_139 (by decide) ?_
    obtain ⟨e1i, e1j, e1a, e1b, e3⟩ := re4m hm
    obtain ⟨hP, hD⟩ := y_eq e1i e1j e1a e1b hP hD
    exact W.zret hx hb hr (by decide) (fun t9 ht hW => ⟨⟨_, (), rfl, e3.symm, by rw [ht]; exact hP, hD⟩, hS.F ht⟩) hS.2.2 d_Model_fits_140
def m_Model_fits_b121 (n : Nat) (rc_2 : (Nat → Int32) → (Nat → Int64) → (Nat → Nat → Int32) → (Nat → Nat → Int64) → Int32 → Nat → Int32 → Option ((Nat → Int32) × (Nat → Int64) × (Nat → Nat → Int32) × (Nat → Nat → Int64) × Int32)) (i : Nat → Int32) (j : Nat → Int64) (a : Nat → Nat → Int32) (b : Nat → Nat → Int64) (v1 : Int32) (t2 : Nat) (v3 : Int32) : Option ((Nat → Int32) × (Nat → Int64) × (Nat → Nat → Int32) × (Nat → Nat → Int64) × Int32) := ct t2 (m_Model_fits_b126 n rc_2 i j a b v1 t2 v3 (1 : Int32))
set_option maxHeartbeats 4000000 in
set_option maxRecDepth 100000 in
theorem lb_Model_fits_121 (l : Launch) (dC : Nat → ClassId) (dI : Nat → Nat → Nat) (cI cJ cB : ClassId) (adK adV adA : Nat → Nat) (h : Nat) (v : Nat → Nat) (n : Nat) {p : Program} {e : Env} {s : State} {m : MethodId} {args : Array Value} {below : List Frame} {meth : Method} {c : Code} {A : Nat → Prop} (hx : p.tables.exec = Jvm.exec) (hb : c.code = b_Model_fits) (hml : c.maxLocals = 8) (hown : s.vm.findClass R_Model = some m.cls) (hts : ∀ w ∈ w_Model_fits, w.before args s = true) (hK : va_K (dC, dI) classes [(cI, .int), (cJ, .long), (cB, .byte)] s) (hE : tw_E adK adV adA A s s.heap) (hA : ∀ q : Nat, s.heap.size ≤ q → A q) (hr : meth.sig.returnType = (some .boolean)) (hlocks : meth.locks = false) {i2 : Nat → Int32} {j2 : Nat → Int64} {a2 : Nat → Nat → Int32} {b2 : Nat → Nat → Int64} {r2 : Int32} (rc_2 : (Nat → Int32) → (Nat → Int64) → (Nat → Nat → Int32) → (Nat → Nat → Int64) → Int32 → Nat → Int32 → Option ((Nat → Int32) × (Nat → Int64) × (Nat → Nat → Int32) × (Nat → Nat → Int64) × Int32)) (Hrc_2 : ∀ (i : Nat → Int32) (j : Nat → Int64) (a : Nat → Nat → Int32) (b : Nat → Nat → Int64) (v1 : Int32) (t2 : Nat) (v3 : Int32), rc_2 i j a b v1 t2 v3 = some (i2, j2, a2, b2, r2) → ∀ (H : Heap) (locs : List Loc) (ls : Array Slot), va_P (dC, dI) classes (MW cI cJ cB h v i j a b) H → va_D A (MW cI cJ cB h v i j a b) → va_S A s.heap H locs → lv_has ls 8 [(0, .ref h), (1, .int v1), (2, .ref ((adK t2))), (3, .int v3)] → W p l e ({ frames := 6, cells := 0, slots := 0, locals := 130 } : Room) s m args below meth c H locs 0 0 (MQ below (va_Qi (xR r2) (yB dC dI cI cJ cB h v i2 j2 a2 b2 A) A) args s 0 0 A) (F0 m 2 ls [])) (i : Nat → Int32) (j : Nat → Int64) (a : Nat → Nat → Int32) (b : Nat → Nat → Int64) (v1 : Int32) (t2 : Nat) (v3 : Int32) (hm : m_Model_fits_b121 n rc_2 i j a b v1 t2 v3 = some (i2, j2, a2, b2, r2)) : ∀ (H : Heap) (locs : List Loc) (ls : Array Slot), va_P (dC, dI) classes (MW cI cJ cB h v i j a b) H → va_D A (MW cI cJ cB h v i j a b) → va_S A s.heap H locs → lv_has ls 8 [(0, .ref h), (1, .int v1), (2, .ref ((adK t2))), (3, .int v3)] → W p l e ({ frames := 6, cells := 0, slots := 0, locals := 130 } : Room) s m args below meth c H locs 0 0 (MQ below (va_Qi (xR r2) (yB dC dI cI cJ cB h v i2 j2 a2 b2 A) A) args s 0 0 A) (F0 m 121 ls []) := by
  have htt : ∀ w ∈ tw_T, w.before _ s = true := fun w h => hts w (List.mem_cons_of_mem _ h)
  intro H locs ls hP hD hS hl
  rw [m_Model_fits_b121] at hm
  obtain ⟨ht2, hm⟩ := ct_some hm
  refine lv_iconst (v := 1) hx hb d_Model_fits_121 (by decide) ?_
  refine lv_goto (tgt := 126) hx hb d_Model_fits_122 (by decide) ?_
  exact lb_Model_fits_126 l dC dI cI cJ cB adK adV adA h v n hx hb hml hown hts hK hE hA hr hlocks rc_2 Hrc_2 _ _ _ _ _ _ _ _ hm _ _ _ hP hD hS (lv_sub hl [0, 1, 2, 3] rfl)
def m_Model_fits_b125 (n : Nat) (rc_2 : (Nat → Int32) → (Nat → Int64) → (Nat → Nat → Int32) → (Nat → Nat → Int64) → Int32 → Nat → Int32 → Option ((Nat → Int32) × (Nat → Int64) × (Nat → Nat → Int32) × (Nat → Nat → Int64) × Int32)) (i : Nat → Int32) (j : Nat → Int64) (a : Nat → Nat → Int32) (b : Nat → Nat → Int64) (v1 : Int32) (t2 : Nat) (v3 : Int32) : Option ((Nat → Int32) × (Nat → Int64) × (Nat → Nat → Int32) × (Nat → Nat → Int64) × Int32) := ct t2 (m_Model_fits_b126 n rc_2 i j a b v1 t2 v3 (0 : Int32))
set_option maxHeartbeats 4000000 in
set_option maxRecDepth 100000 in
theorem lb_Model_fits_125 (l : Launch) (dC : Nat → ClassId) (dI : Nat → Nat → Nat) (cI cJ cB : ClassId) (adK adV adA : Nat → Nat) (h : Nat) (v : Nat → Nat) (n : Nat) {p : Program} {e : Env} {s : State} {m : MethodId} {args : Array Value} {below : List Frame} {meth : Method} {c : Code} {A : Nat → Prop} (hx : p.tables.exec = Jvm.exec) (hb : c.code = b_Model_fits) (hml : c.maxLocals = 8) (hown : s.vm.findClass R_Model = some m.cls) (hts : ∀ w ∈ w_Model_fits, w.before args s = true) (hK : va_K (dC, dI) classes [(cI, .int), (cJ, .long), (cB, .byte)] s) (hE : tw_E adK adV adA A s s.heap) (hA : ∀ q : Nat, s.heap.size ≤ q → A q) (hr : meth.sig.returnType = (some .boolean)) (hlocks : meth.locks = false) {i2 : Nat → Int32} {j2 : Nat → Int64} {a2 : Nat → Nat → Int32} {b2 : Nat → Nat → Int64} {r2 : Int32} (rc_2 : (Nat → Int32) → (Nat → Int64) → (Nat → Nat → Int32) → (Nat → Nat → Int64) → Int32 → Nat → Int32 → Option ((Nat → Int32) × (Nat → Int64) × (Nat → Nat → Int32) × (Nat → Nat → Int64) × Int32)) (Hrc_2 : ∀ (i : Nat → Int32) (j : Nat → Int64) (a : Nat → Nat → Int32) (b : Nat → Nat → Int64) (v1 : Int32) (t2 : Nat) (v3 : Int32), rc_2 i j a b v1 t2 v3 = some (i2, j2, a2, b2, r2) → ∀ (H : Heap) (locs : List Loc) (ls : Array Slot), va_P (dC, dI) classes (MW cI cJ cB h v i j a b) H → va_D A (MW cI cJ cB h v i j a b) → va_S A s.heap H locs → lv_has ls 8 [(0, .ref h), (1, .int v1), (2, .ref ((adK t2))), (3, .int v3)] → W p l e ({ frames := 6, cells := 0, slots := 0, locals := 130 } : Room) s m args below meth c H locs 0 0 (MQ below (va_Qi (xR r2) (yB dC dI cI cJ cB h v i2 j2 a2 b2 A) A) args s 0 0 A) (F0 m 2 ls [])) (i : Nat → Int32) (j : Nat → Int64) (a : Nat → Nat → Int32) (b : Nat → Nat → Int64) (v1 : Int32) (t2 : Nat) (v3 : Int32) (hm : m_Model_fits_b125 n rc_2 i j a b v1 t2 v3 = some (i2, j2, a2, b2, r2)) : ∀ (H : Heap) (locs : List Loc) (ls : Array Slot), va_P (dC, dI) classes (MW cI cJ cB h v i j a b) H → va_D A (MW cI cJ cB h v i j a b) → va_S A s.heap H locs → lv_has ls 8 [(0, .ref h), (1, .int v1), (2, .ref ((adK t2))), (3, .int v3)] → W p l e ({ frames := 6, cells := 0, slots := 0, locals := 130 } : Room) s m args below meth c H locs 0 0 (MQ below (va_Qi (xR r2) (yB dC dI cI cJ cB h v i2 j2 a2 b2 A) A) args s 0 0 A) (F0 m 125 ls []) := by
  have htt : ∀ w ∈ tw_T, w.before _ s = true := fun w h => hts w (List.mem_cons_of_mem _ h)
  intro H locs ls hP hD hS hl
  rw [m_Model_fits_b125] at hm
  obtain ⟨ht2, hm⟩ := ct_some hm
  refine lv_iconst (v := 0) hx hb d_Model_fits_125 (by decide) ?_
  exact lb_Model_fits_126 l dC dI cI cJ cB adK adV adA h v n hx hb hml hown hts hK hE hA hr hlocks rc_2 Hrc_2 _ _ _ _ _ _ _ _ hm _ _ _ hP hD hS (lv_sub hl [0, 1, 2, 3] rfl)
def m_Model_fits_b2 (n : Nat) : Nat → (Nat → Int32) → (Nat → Int64) → (Nat → Nat → Int32) → (Nat → Nat → Int64) → Int32 → Nat → Int32 → Option ((Nat → Int32) × (Nat → Int64) × (Nat → Nat → Int32) × (Nat → Nat → Int64) × Int32)
  | 0, _, _, _, _, _, _, _ => none
  | f + 1, i, j, a, b, v1, t2, v3 => ct t2 (if ((nI (tw_len.getD t2 0))) ≤ v3 then some (i, j, a, b, 1) else ck ((v1 + v3)) 36000 (ob1 (b 111 (v1 + v3).toNatClampNeg : Int64) (fun x_3 => cs v3 (tw_len.getD t2 0) (ob1 (tw_bt t2 v3.toNatClampNeg &&& 255 : Int32) (fun x_5 => if x_5 = ((110 : Int32)) then ob0 (m_Model_isNumber n x_3) (fun r_27 => m_Model_fits_b126 n (m_Model_fits_b2 n f) i j a b v1 t2 v3 r_27) else if x_5 = ((108 : Int32)) then ob0 (m_Model_isList n x_3) (fun r_25 => m_Model_fits_b126 n (m_Model_fits_b2 n f) i j a b v1 t2 v3 r_25) else if x_5 = ((119 : Int32)) then ob0 (m_Model_isWord n x_3) (fun r_23 => m_Model_fits_b126 n (m_Model_fits_b2 n f) i j a b v1 t2 v3 r_23) else if x_5 = ((98 : Int32)) then ob0 (m_Model_isTruth n i j a b x_3) (fun r_21 => m_Model_fits_b126 n (m_Model_fits_b2 n f) i j a b v1 t2 v3 r_21) else if x_5 = ((116 : Int32)) then ob0 (m_Model_isNumber n x_3) (fun r_12 => if r_12 = ((0 : Int32)) then m_Model_fits_b125 n (m_Model_fits_b2 n f) i j a b v1 t2 v3 else ob0 (m_Model_what n x_3) (fun r_15 => if r_15 < ((0 : Int32)) then m_Model_fits_b125 n (m_Model_fits_b2 n f) i j a b v1 t2 v3 else ob0 (m_Model_what n x_3) (fun r_18 => if ((8 : Int32)) ≤ r_18 then m_Model_fits_b125 n (m_Model_fits_b2 n f) i j a b v1 t2 v3 else m_Model_fits_b121 n (m_Model_fits_b2 n f) i j a b v1 t2 v3))) else m_Model_fits_b121 n (m_Model_fits_b2 n f) i j a b v1 t2 v3)))))
set_option maxHeartbeats 4000000 in
set_option maxRecDepth 100000 in
theorem lb_Model_fits_2 (l : Launch) (dC : Nat → ClassId) (dI : Nat → Nat → Nat) (cI cJ cB : ClassId) (adK adV adA : Nat → Nat) (h : Nat) (v : Nat → Nat) (n : Nat) {p : Program} {e : Env} {s : State} {m : MethodId} {args : Array Value} {below : List Frame} {meth : Method} {c : Code} {A : Nat → Prop} (hx : p.tables.exec = Jvm.exec) (hb : c.code = b_Model_fits) (hml : c.maxLocals = 8) (hown : s.vm.findClass R_Model = some m.cls) (hts : ∀ w ∈ w_Model_fits, w.before args s = true) (hK : va_K (dC, dI) classes [(cI, .int), (cJ, .long), (cB, .byte)] s) (hE : tw_E adK adV adA A s s.heap) (hA : ∀ q : Nat, s.heap.size ≤ q → A q) (hr : meth.sig.returnType = (some .boolean)) (hlocks : meth.locks = false) {i2 : Nat → Int32} {j2 : Nat → Int64} {a2 : Nat → Nat → Int32} {b2 : Nat → Nat → Int64} {r2 : Int32} : ∀ (f : Nat) (i : Nat → Int32) (j : Nat → Int64) (a : Nat → Nat → Int32) (b : Nat → Nat → Int64) (v1 : Int32) (t2 : Nat) (v3 : Int32), m_Model_fits_b2 n f i j a b v1 t2 v3 = some (i2, j2, a2, b2, r2) → ∀ (H : Heap) (locs : List Loc) (ls : Array Slot), va_P (dC, dI) classes (MW cI cJ cB h v i j a b) H → va_D A (MW cI cJ cB h v i j a b) → va_S A s.heap H locs → lv_has ls 8 [(0, .ref h), (1, .int v1), (2, .ref ((adK t2))), (3, .int v3)] → W p l e ({ frames := 6, cells := 0, slots := 0, locals := 130 } : Room) s m args below meth c H locs 0 0 (MQ below (va_Qi (xR r2) (yB dC dI cI cJ cB h v i2 j2 a2 b2 A) A) args s 0 0 A) (F0 m 2 ls []) := by
  have htt : ∀ w ∈ tw_T, w.before _ s = true := fun w h => hts w (List.mem_cons_of_mem _ h)
  intro f
  induction f with
  | zero =>
    intro i j a b v1 t2 v3 hm
    rw [m_Model_fits_b2] at hm
    cases hm
  | succ f ih =>
    intro i j a b v1 t2 v3 hm H locs ls hP hD hS hl
    rw [m_Model_fits_b2] at hm
    obtain ⟨ht2, hm⟩ := ct_some hm
    refine lv_iload_n hx hb d_Model_fits_2 rfl (lv_at hl 3 rfl) ?_
    refine lv_aload_n hx hb d_Model_fits_3 rfl (lv_at hl 2 rfl) ?_
    have hFc := x_free0 hS hA
    refine va_calli (va_runV (As := []) (rest := [.int v3]) ⟨hx, hb, hml, hown, hts⟩ (c_String_length l dC dI H.size (adK t2) (adV t2) (tw_len.getD t2 0) (tw_bt t2)) (cwV 0 hts (tw_GV tw_cons cw_String_length lk_Model_75 in_String_length sel_String_length ini_String) rfl rfl rfl ⟨rfl, hd_String_length⟩ ⟨Nat.le_of_ble_eq_true rfl, Nat.le_of_ble_eq_true rfl⟩) (ypStr hK hS (hE.str t2 ht2) hFc) rfl rfl hl.1 rfl (lv_room (Nat.le_of_ble_eq_true rfl)) d_Model_fits_4 ⟨Nat.le_of_ble_eq_true rfl, Nat.le_of_ble_eq_true rfl⟩) hS (fun q _ h => hFc q h) hFc (fun r9 u9 t9 H locs ht hvm e9 hB hz1 hk1 hS => ?_)
    have e9 : r9 = nI (tw_len.getD t2 0) := e9
    subst e9
    replace hP := x_keep hP hk1
    clear hFc hk1 hz1 hvm hB ht
    refine lv_icmp_ge (tgt := 147) hx hb d_Model_fits_7 (by decide) (fun c_1 => ?_) (fun c_1 => ?_)
    · replace hm := if_t c_1 hm
      refine lv_iconst (v := 1) hx hb d_Model_fits_147 (by decide) ?_
      obtain ⟨e1i, e1j, e1a, e1b, e3⟩ := re4m hm
      obtain ⟨hP, hD⟩ := y_eq e1i e1j e1a e1b hP hD
      exact W.zret hx hb hr (by decide) (fun t9 ht hW => ⟨⟨_, (), rfl, e3.symm, by rw [ht]; exact hP, hD⟩, hS.F ht⟩) hS.2.2 d_Model_fits_148
    · replace hm := if_f c_1 hm
      refine lv_aload_n hx hb d_Model_fits_10 rfl (lv_at hl 0 rfl) ?_
      refine va_get (D := (dC, dI)) (ci := 12) (v := .ref ((v 111))) (C := R_Model) (T := F_Model) (N := 127) hx hb htt iw_Model hown hK hP 0 yo_12 rfl 111 (Nat.le_of_ble_eq_true rfl) (htt _ lk_Model_301) (fun _ h9 => h9) yg_111 d_Model_fits_11 ?_
      refine lv_iload_n hx hb d_Model_fits_14 rfl (lv_at hl 1 rfl) ?_
      refine lv_iload_n hx hb d_Model_fits_15 rfl (lv_at hl 3 rfl) ?_
      refine lv_iadd hx hb d_Model_fits_16 ?_
      obtain ⟨h_2, hm⟩ := ck_some hm
      refine va_lald hx hb hK hP 61 1 ya_111 rfl h_2 d_Model_fits_17 ?_
      refine lv_topl (fun x_3 ex_3 => ?_)
      replace hm := ob1_at ex_3 hm
      refine lv_lstore (lv' := [(4, .long x_3), (0, .ref h), (1, .int v1), (2, .ref ((adK t2))), (3, .int v3)]) hx hb d_Model_fits_18 hl (by decide) rfl (fun ls hl => ?_)
      refine lv_aload_n hx hb d_Model_fits_20 rfl (lv_at hl 3 rfl) ?_
      refine lv_iload_n hx hb d_Model_fits_21 rfl (lv_at hl 4 rfl) ?_
      have hFc := x_free0 hS hA
      obtain ⟨h_4a, h_4b, hm⟩ := cs_some hm
      refine va_calli (va_runV (As := [.int v3]) (rest := []) ⟨hx, hb, hml, hown, hts⟩ (c_String_charAt l dC dI H.size (adK t2) (adV t2) (tw_len.getD t2 0) (tw_bt t2) v3 h_4a h_4b) (cwV 1 hts (tw_GV tw_cons cw_String_charAt lk_Model_81 in_String_charAt sel_String_charAt ini_String) rfl rfl rfl ⟨rfl, hd_String_charAt⟩ ⟨Nat.le_of_ble_eq_true rfl, Nat.le_of_ble_eq_true rfl⟩) (ypStr hK hS (hE.str t2 ht2) hFc) rfl rfl hl.1 rfl (lv_room (Nat.le_of_ble_eq_true rfl)) d_Model_fits_22 ⟨Nat.le_of_ble_eq_true rfl, Nat.le_of_ble_eq_true rfl⟩) hS (fun q _ h => hFc q h) hFc (fun r9 u9 t9 H locs ht hvm e9 hB hz1 hk1 hS => ?_)
      have e9 : r9 = tw_bt t2 v3.toNatClampNeg &&& 255 := e9
      subst e9
      replace hP := x_keep hP hk1
      clear hFc hk1 hz1 hvm hB ht
      refine lv_topi (fun x_5 ex_5 => ?_)
      replace hm := ob1_at ex_5 hm
      refine lv_istore (lv' := [(6, .int x_5), (4, .long x_3), (0, .ref h), (1, .int v1), (2, .ref ((adK t2))), (3, .int v3)]) hx hb d_Model_fits_25 hl (by decide) rfl (fun ls hl => ?_)
      refine lv_iload hx hb d_Model_fits_27 (lv_at hl 0 rfl) ?_
      refine lv_bipush (v := 110) hx hb d_Model_fits_29 (by decide) ?_
      refine lv_icmp_ne (tgt := 42) hx hb d_Model_fits_31 (by decide) (fun c_6 => ?_) (fun c_6 => ?_)
      · replace hm := if_f c_6 hm
        refine lv_iload hx hb d_Model_fits_42 (lv_at hl 0 rfl) ?_
        refine lv_bipush (v := 108) hx hb d_Model_fits_44 (by decide) ?_
        refine lv_icmp_ne (tgt := 57) hx hb d_Model_fits_46 (by decide) (fun c_7 => ?_) (fun c_7 => ?_)
        · replace hm := if_f c_7 hm
          refine lv_iload hx hb d_Model_fits_57 (lv_at hl 0 rfl) ?_
          refine lv_bipush (v := 119) hx hb d_Model_fits_59 (by decide) ?_
          refine lv_icmp_ne (tgt := 72) hx hb d_Model_fits_61 (by decide) (fun c_8 => ?_) (fun c_8 => ?_)
          · replace hm := if_f c_8 hm
            refine lv_iload hx hb d_Model_fits_72 (lv_at hl 0 rfl) ?_
            refine lv_bipush (v := 98) hx hb d_Model_fits_74 (by decide) ?_
            refine lv_icmp_ne (tgt := 88) hx hb d_Model_fits_76 (by decide) (fun c_9 => ?_) (fun c_9 => ?_)
            · replace hm := if_f c_9 hm
              refine lv_iload hx hb d_Model_fits_88 (lv_at hl 0 rfl) ?_
              refine lv_bipush (v := 116) hx hb d_Model_fits_90 (by decide) ?_
              refine lv_icmp_ne (tgt := 121) hx hb d_Model_fits_92 (by decide) (fun c_10 => ?_) (fun c_10 => ?_)
              · replace hm := if_f c_10 hm
                exact lb_Model_fits_121 l dC dI cI cJ cB adK adV adA h v n hx hb hml hown hts hK hE hA hr hlocks (m_Model_fits_b2 n f) ih _ _ _ _ _ _ _ hm _ _ _ hP hD hS (lv_sub hl [2, 3, 4, 5] rfl)
              · replace hm := if_t c_10 hm
                refine lv_lload hx hb d_Model_fits_95 (lv_at hl 1 rfl) ?_
                obtain ⟨r_12, h_11, hm⟩ := ob0_some hm
                have hFc := x_free0 hS hA
                refine va_calli (va_runS (As := [.long x_3]) (rest := []) ⟨hx, hb, hml, hown, hts⟩ (x_Model_isNumber l H.size n h_11) (va_cwS 1 hts (tw_GS tw_cons cw_Model_isNumber lk_Model_57 st_Model_isNumber ini_Model) rfl rfl rfl hd_Model_isNumber ⟨Nat.le_of_ble_eq_true rfl, Nat.le_of_ble_eq_true rfl⟩) xpS0 rfl rfl hl.1 rfl (lv_room (Nat.le_of_ble_eq_true rfl)) d_Model_fits_97 ⟨Nat.le_of_ble_eq_true rfl, Nat.le_of_ble_eq_true rfl⟩) hS (fun q _ h => hFc q h) hFc (fun r9 u9 t9 H locs ht hvm e9 hB hz1 hk1 hS => ?_)
                have e9 : r_12 = r9 := e9
                subst e9
                replace hP := x_keep hP hk1
                clear hFc hk1 hz1 hvm hB ht
                refine lv_if_eq (tgt := 125) hx hb d_Model_fits_100 (by decide) (fun c_13 => ?_) (fun c_13 => ?_)
                · replace hm := if_t c_13 hm
                  exact lb_Model_fits_125 l dC dI cI cJ cB adK adV adA h v n hx hb hml hown hts hK hE hA hr hlocks (m_Model_fits_b2 n f) ih _ _ _ _ _ _ _ hm _ _ _ hP hD hS (lv_sub hl [2, 3, 4, 5] rfl)
                · replace hm := if_f c_13 hm
                  refine lv_lload hx hb d_Model_fits_103 (lv_at hl 1 rfl) ?_
                  obtain ⟨r_15, h_14, hm⟩ := ob0_some hm
                  have hFc := x_free0 hS hA
                  refine va_calli (va_runS (As := [.long x_3]) (rest := []) ⟨hx, hb, hml, hown, hts⟩ (x_Model_what l H.size n h_14) (va_cwS 1 hts (tw_GS tw_cons cw_Model_what lk_Model_64 st_Model_what ini_Model) rfl rfl rfl hd_Model_what ⟨Nat.le_of_ble_eq_true rfl, Nat.le_of_ble_eq_true rfl⟩) xpS0 rfl rfl hl.1 rfl (lv_room (Nat.le_of_ble_eq_true rfl)) d_Model_fits_105 ⟨Nat.le_of_ble_eq_true rfl, Nat.le_of_ble_eq_true rfl⟩) hS (fun q _ h => hFc q h) hFc (fun r9 u9 t9 H locs ht hvm e9 hB hz1 hk1 hS => ?_)
                  have e9 : r_15 = r9 := e9
                  subst e9
                  replace hP := x_keep hP hk1
                  clear hFc hk1 hz1 hvm hB ht
                  refine lv_if_lt (tgt := 125) hx hb d_Model_fits_108 (by decide) (fun c_16 => ?_) (fun c_16 => ?_)
                  · replace hm := if_t c_16 hm
                    exact lb_Model_fits_125 l dC dI cI cJ cB adK adV adA h v n hx hb hml hown hts hK hE hA hr hlocks (m_Model_fits_b2 n f) ih _ _ _ _ _ _ _ hm _ _ _ hP hD hS (lv_sub hl [2, 3, 4, 5] rfl)
                  · replace hm := if_f c_16 hm
                    refine lv_lload hx hb d_Model_fits_111 (lv_at hl 1 rfl) ?_
                    obtain ⟨r_18, h_17, hm⟩ := ob0_some hm
                    have hFc := x_free0 hS hA
                    refine va_calli (va_runS (As := [.long x_3]) (rest := []) ⟨hx, hb, hml, hown, hts⟩ (x_Model_what l H.size n h_17) (va_cwS 1 hts (tw_GS tw_cons cw_Model_what lk_Model_64 st_Model_what ini_Model) rfl rfl rfl hd_Model_what ⟨Nat.le_of_ble_eq_true rfl, Nat.le_of_ble_eq_true rfl⟩) xpS0 rfl rfl hl.1 rfl (lv_room (Nat.le_of_ble_eq_true rfl)) d_Model_fits_113 ⟨Nat.le_of_ble_eq_true rfl, Nat.le_of_ble_eq_true rfl⟩) hS (fun q _ h => hFc q h) hFc (fun r9 u9 t9 H locs ht hvm e9 hB hz1 hk1 hS => ?_)
                    have e9 : r_18 = r9 := e9
                    subst e9
                    replace hP := x_keep hP hk1
                    clear hFc hk1 hz1 hvm hB ht
                    refine lv_bipush (v := 8) hx hb d_Model_fits_116 (by decide) ?_
                    refine lv_icmp_ge (tgt := 125) hx hb d_Model_fits_118 (by decide) (fun c_19 => ?_) (fun c_19 => ?_)
                    · replace hm := if_t c_19 hm
                      exact lb_Model_fits_125 l dC dI cI cJ cB adK adV adA h v n hx hb hml hown hts hK hE hA hr hlocks (m_Model_fits_b2 n f) ih _ _ _ _ _ _ _ hm _ _ _ hP hD hS (lv_sub hl [2, 3, 4, 5] rfl)
                    · replace hm := if_f c_19 hm
                      exact lb_Model_fits_121 l dC dI cI cJ cB adK adV adA h v n hx hb hml hown hts hK hE hA hr hlocks (m_Model_fits_b2 n f) ih _ _ _ _ _ _ _ hm _ _ _ hP hD hS (lv_sub hl [2, 3, 4, 5] rfl)
            · replace hm := if_t c_9 hm
              refine lv_aload_n hx hb d_Model_fits_79 rfl (lv_at hl 2 rfl) ?_
              refine lv_lload hx hb d_Model_fits_80 (lv_at hl 1 rfl) ?_
              obtain ⟨r_21, h_20, hm⟩ := ob0_some hm
              have hFc := x_free0 hS hA
              refine va_calli (va_runV (As := [.long x_3]) (rest := []) ⟨hx, hb, hml, hown, hts⟩ (x_Model_isTruth l dC dI cI cJ cB adK adV adA h v H.size n h_20) (cwV 1 hts (tw_GV tw_cons cw_Model_isTruth lk_Model_659 in_Model_isTruth sel_Model_isTruth ini_Model) rfl rfl rfl ⟨rfl, hd_Model_isTruth⟩ ⟨Nat.le_of_ble_eq_true rfl, Nat.le_of_ble_eq_true rfl⟩) (ypVr hK hP hS hE hFc yo_12 rfl) rfl rfl hl.1 rfl (lv_room (Nat.le_of_ble_eq_true rfl)) d_Model_fits_82 ⟨Nat.le_of_ble_eq_true rfl, Nat.le_of_ble_eq_true rfl⟩) hS (fun q _ h => hFc q h) hFc (fun r9 u9 t9 H locs ht hvm e9 hB hz1 hk1 hS => ?_)
              have e9 : r_21 = r9 := e9
              subst e9
              replace hP := x_keep hP hk1
              clear hFc hk1 hz1 hvm hB ht
              refine lv_goto (tgt := 126) hx hb d_Model_fits_85 (by decide) ?_
              exact lb_Model_fits_126 l dC dI cI cJ cB adK adV adA h v n hx hb hml hown hts hK hE hA hr hlocks (m_Model_fits_b2 n f) ih _ _ _ _ _ _ _ _ hm _ _ _ hP hD hS (lv_sub hl [2, 3, 4, 5] rfl)
          · replace hm := if_t c_8 hm
            refine lv_lload hx hb d_Model_fits_64 (lv_at hl 1 rfl) ?_
            obtain ⟨r_23, h_22, hm⟩ := ob0_some hm
            have hFc := x_free0 hS hA
            refine va_calli (va_runS (As := [.long x_3]) (rest := []) ⟨hx, hb, hml, hown, hts⟩ (x_Model_isWord l H.size n h_22) (va_cwS 1 hts (tw_GS tw_cons cw_Model_isWord lk_Model_61 st_Model_isWord ini_Model) rfl rfl rfl hd_Model_isWord ⟨Nat.le_of_ble_eq_true rfl, Nat.le_of_ble_eq_true rfl⟩) xpS0 rfl rfl hl.1 rfl (lv_room (Nat.le_of_ble_eq_true rfl)) d_Model_fits_66 ⟨Nat.le_of_ble_eq_true rfl, Nat.le_of_ble_eq_true rfl⟩) hS (fun q _ h => hFc q h) hFc (fun r9 u9 t9 H locs ht hvm e9 hB hz1 hk1 hS => ?_)
            have e9 : r_23 = r9 := e9
            subst e9
            replace hP := x_keep hP hk1
            clear hFc hk1 hz1 hvm hB ht
            refine lv_goto (tgt := 126) hx hb d_Model_fits_69 (by decide) ?_
            exact lb_Model_fits_126 l dC dI cI cJ cB adK adV adA h v n hx hb hml hown hts hK hE hA hr hlocks (m_Model_fits_b2 n f) ih _ _ _ _ _ _ _ _ hm _ _ _ hP hD hS (lv_sub hl [2, 3, 4, 5] rfl)
        · replace hm := if_t c_7 hm
          refine lv_lload hx hb d_Model_fits_49 (lv_at hl 1 rfl) ?_
          obtain ⟨r_25, h_24, hm⟩ := ob0_some hm
          have hFc := x_free0 hS hA
          refine va_calli (va_runS (As := [.long x_3]) (rest := []) ⟨hx, hb, hml, hown, hts⟩ (x_Model_isList l H.size n h_24) (va_cwS 1 hts (tw_GS tw_cons cw_Model_isList lk_Model_95 st_Model_isList ini_Model) rfl rfl rfl hd_Model_isList ⟨Nat.le_of_ble_eq_true rfl, Nat.le_of_ble_eq_true rfl⟩) xpS0 rfl rfl hl.1 rfl (lv_room (Nat.le_of_ble_eq_true rfl)) d_Model_fits_51 ⟨Nat.le_of_ble_eq_true rfl, Nat.le_of_ble_eq_true rfl⟩) hS (fun q _ h => hFc q h) hFc (fun r9 u9 t9 H locs ht hvm e9 hB hz1 hk1 hS => ?_)
          have e9 : r_25 = r9 := e9
          subst e9
          replace hP := x_keep hP hk1
          clear hFc hk1 hz1 hvm hB ht
          refine lv_goto (tgt := 126) hx hb d_Model_fits_54 (by decide) ?_
          exact lb_Model_fits_126 l dC dI cI cJ cB adK adV adA h v n hx hb hml hown hts hK hE hA hr hlocks (m_Model_fits_b2 n f) ih _ _ _ _ _ _ _ _ hm _ _ _ hP hD hS (lv_sub hl [2, 3, 4, 5] rfl)
      · replace hm := if_t c_6 hm
        refine lv_lload hx hb d_Model_fits_34 (lv_at hl 1 rfl) ?_
        obtain ⟨r_27, h_26, hm⟩ := ob0_some hm
        have hFc := x_free0 hS hA
        refine va_calli (va_runS (As := [.long x_3]) (rest := []) ⟨hx, hb, hml, hown, hts⟩ (x_Model_isNumber l H.size n h_26) (va_cwS 1 hts (tw_GS tw_cons cw_Model_isNumber lk_Model_57 st_Model_isNumber ini_Model) rfl rfl rfl hd_Model_isNumber ⟨Nat.le_of_ble_eq_true rfl, Nat.le_of_ble_eq_true rfl⟩) xpS0 rfl rfl hl.1 rfl (lv_room (Nat.le_of_ble_eq_true rfl)) d_Model_fits_36 ⟨Nat.le_of_ble_eq_true rfl, Nat.le_of_ble_eq_true rfl⟩) hS (fun q _ h => hFc q h) hFc (fun r9 u9 t9 H locs ht hvm e9 hB hz1 hk1 hS => ?_)
        have e9 : r_27 = r9 := e9
        subst e9
        replace hP := x_keep hP hk1
        clear hFc hk1 hz1 hvm hB ht
        refine lv_goto (tgt := 126) hx hb d_Model_fits_39 (by decide) ?_
        exact lb_Model_fits_126 l dC dI cI cJ cB adK adV adA h v n hx hb hml hown hts hK hE hA hr hlocks (m_Model_fits_b2 n f) ih _ _ _ _ _ _ _ _ hm _ _ _ hP hD hS (lv_sub hl [2, 3, 4, 5] rfl)
def m_Model_fits (n : Nat) (i : Nat → Int32) (j : Nat → Int64) (a : Nat → Nat → Int32) (b : Nat → Nat → Int64) (v1 : Int32) (t2 : Nat) : Option ((Nat → Int32) × (Nat → Int64) × (Nat → Nat → Int32) × (Nat → Nat → Int64) × Int32) := ct t2 (m_Model_fits_b2 n n i j a b v1 t2 (0 : Int32))
set_option maxHeartbeats 4000000 in
set_option maxRecDepth 100000 in
theorem x_Model_fits (l : Launch) (dC : Nat → ClassId) (dI : Nat → Nat → Nat) (cI cJ cB : ClassId) (adK adV adA : Nat → Nat) (h : Nat) (v : Nat → Nat) (sz : Nat) (n : Nat) {i : Nat → Int32} {j : Nat → Int64} {a : Nat → Nat → Int32} {b : Nat → Nat → Int64} {v1 : Int32} {t2 : Nat} {i2 : Nat → Int32} {j2 : Nat → Int64} {a2 : Nat → Nat → Int32} {b2 : Nat → Nat → Int64} {r2 : Int32} (hm : m_Model_fits n i j a b v1 t2 = some (i2, j2, a2, b2, r2)) : Met l y_Model_fits w_Model_fits ({ frames := 6, cells := 0, slots := 0, locals := 130 } : Room) (va_Pc [.ref h, .int v1, .ref ((adK t2))] (yE dC dI cI cJ cB adK adV adA h v i j a b sz)) (va_Qi (xR r2) (yB dC dI cI cJ cB h v i2 j2 a2 b2 (va_A (MW cI cJ cB h v i j a b) sz)) (va_A (MW cI cJ cB h v i j a b) sz)) 0 0 ((va_A (MW cI cJ cB h v i j a b) sz)) := by
  refine Met.ofW (cc := b_Model_fits) (maxL := 8) (ret := (some .boolean)) (by decide) rfl ?_
  intro p e s m args below meth c s₁ B hml hv
  obtain ⟨rfl, hsz, hP, hK, hE, hD0⟩ := hv
  have hx := B.exec
  have hb := B.bytes
  have hr := B.returns
  have hts := atoms_spec (ws := w_Model_fits) B.pre
  have htt : ∀ w ∈ tw_T, w.before _ s = true := fun w h => hts w (List.mem_cons_of_mem _ h)
  have hown : s.vm.findClass R_Model = some m.cls := findClass_of_methodNamed B.named
  have hlocks := B.notSynchronized
  subst hsz
  have hD := hD0.self (sz := s.heap.size)
  generalize hAe : (va_A (MW cI cJ cB h v i j a b) s.heap.size) = A at hD hE ⊢
  have hA : ∀ q : Nat, s.heap.size ≤ q → A q := fun q h => by rw [← hAe]; exact Or.inr h
  have hS : va_S A s.heap s.heap [] := va_S.rf
  have hl := lv_entry ([.ref h, .int v1, .ref ((adK t2))]) (n := 8) (Nat.le_of_ble_eq_true rfl)
  rw [lg_entry_eq]
  generalize (lg_sl ([.ref h, .int v1, .ref ((adK t2))]) ++ List.replicate (8 - (lg_sl ([.ref h, .int v1, .ref ((adK t2))])).length) Slot.unset).toArray = ls at hl ⊢
  have hl : lv_has ls 8 [(0, .ref h), (1, .int v1), (2, .ref ((adK t2)))] := hl
  rw [m_Model_fits] at hm
  obtain ⟨ht2, hm⟩ := ct_some hm
  refine lv_iconst (v := 0) hx hb d_Model_fits_0 (by decide) ?_
  refine lv_istore_n (lv' := [(3, .int 0), (0, .ref h), (1, .int v1), (2, .ref ((adK t2)))]) hx hb d_Model_fits_1 rfl hl (by decide) rfl (fun ls hl => ?_)
  exact lb_Model_fits_2 l dC dI cI cJ cB adK adV adA h v n hx hb hml hown hts hK hE hA hr hlocks n _ _ _ _ _ _ _ hm _ _ _ hP hD hS (lv_sub hl [1, 2, 3, 0] rfl)

def m_Model_steps_b371 (n : Nat) (i : Nat → Int32) (j : Nat → Int64) (a : Nat → Nat → Int32) (b : Nat → Nat → Int64) (v1 : Int32) (v5 : Int32) (v6 : Int32) (v7 : Int32) (v8 : Int32) : Option ((Nat → Int32) × (Nat → Int64) × (Nat → Nat → Int32) × (Nat → Nat → Int64) × Int64) := om (m_Model_set n i j a b v1 v5 v6 v7 v8) (fun i_2 j_3 a_4 b_5 r_6 => some (i_2, j_3, a_4, b_5, 3))
set_option maxHeartbeats 4000000 in
set_option maxRecDepth 100000 in
theorem lb_Model_steps_371 (l : Launch) (dC : Nat → ClassId) (dI : Nat → Nat → Nat) (cI cJ cB : ClassId) (adK adV adA : Nat → Nat) (h : Nat) (v : Nat → Nat) (n : Nat) {p : Program} {e : Env} {s : State} {m : MethodId} {args : Array Value} {below : List Frame} {meth : Method} {c : Code} {A : Nat → Prop} (hx : p.tables.exec = Jvm.exec) (hb : c.code = b_Model_steps) (hml : c.maxLocals = 10) (hown : s.vm.findClass R_Model = some m.cls) (hts : ∀ w ∈ w_Model_steps, w.before args s = true) (hK : va_K (dC, dI) classes [(cI, .int), (cJ, .long), (cB, .byte)] s) (hE : tw_E adK adV adA A s s.heap) (hA : ∀ q : Nat, s.heap.size ≤ q → A q) (hr : meth.sig.returnType = (some .long)) (hlocks : meth.locks = false) {i2 : Nat → Int32} {j2 : Nat → Int64} {a2 : Nat → Nat → Int32} {b2 : Nat → Nat → Int64} {r2 : Int64} (i : Nat → Int32) (j : Nat → Int64) (a : Nat → Nat → Int32) (b : Nat → Nat → Int64) (v1 : Int32) (v5 : Int32) (v6 : Int32) (v7 : Int32) (v8 : Int32) (hm : m_Model_steps_b371 n i j a b v1 v5 v6 v7 v8 = some (i2, j2, a2, b2, r2)) : ∀ (H : Heap) (locs : List Loc) (ls : Array Slot), va_P (dC, dI) classes (MW cI cJ cB h v i j a b) H → va_D A (MW cI cJ cB h v i j a b) → va_S A s.heap H locs → lv_has ls 10 [(0, .ref h), (1, .int v1), (5, .int v5), (6, .int v6), (7, .int v7), (8, .int v8)] → W p l e ({ frames := 3, cells := 0, slots := 0, locals := 102 } : Room) s m args below meth c H locs 0 0 (MQ below (va_Ql (xR r2) (yB dC dI cI cJ cB h v i2 j2 a2 b2 A) A) args s 0 0 A) (F0 m 371 ls []) := by
  have htt : ∀ w ∈ tw_T, w.before _ s = true := fun w h => hts w (List.mem_cons_of_mem _ h)
  intro H locs ls hP hD hS hl
  rw [m_Model_steps_b371] at hm
  refine lv_aload_n hx hb d_Model_steps_371 rfl (lv_at hl 0 rfl) ?_
  refine lv_iload_n hx hb d_Model_steps_372 rfl (lv_at hl 1 rfl) ?_
  refine lv_iload hx hb d_Model_steps_373 (lv_at hl 2 rfl) ?_
  refine lv_iload hx hb d_Model_steps_375 (lv_at hl 3 rfl) ?_
  refine lv_iload hx hb d_Model_steps_377 (lv_at hl 4 rfl) ?_
  refine lv_iload hx hb d_Model_steps_379 (lv_at hl 5 rfl) ?_
  obtain ⟨i_2, j_3, a_4, b_5, r_6, h_1, hm⟩ := om_some hm
  have hFc := x_free hD hS hA
  refine va_callv (va_runV (As := [.int v1, .int v5, .int v6, .int v7, .int v8]) (rest := []) ⟨hx, hb, hml, hown, hts⟩ (x_Model_set l dC dI cI cJ cB adK adV adA h v H.size n h_1) (cwV 5 hts (tw_GV tw_cons cw_Model_set lk_Model_819 in_Model_set sel_Model_set ini_Model) rfl rfl rfl ⟨rfl, hd_Model_set⟩ ⟨Nat.le_of_ble_eq_true rfl, Nat.le_of_ble_eq_true rfl⟩) (ypV hK hP hD hS hE hFc yo_12 rfl) rfl rfl hl.1 rfl (lv_room (Nat.le_of_ble_eq_true rfl)) d_Model_steps_381 ⟨Nat.le_of_ble_eq_true rfl, Nat.le_of_ble_eq_true rfl⟩) hS (fun q _ h => hFc q h) hFc (fun u9 t9 H locs ht hvm e9 hB hz1 hk1 hS => ?_)
  obtain ⟨hP, hD⟩ := y_aft hB ht hFc
  clear hFc hk1 hz1 hvm hB ht
  refine lv_ldc2 (v := 3) hx hb hown (htt _ lk_Model_7) d_Model_steps_384 ?_
  obtain ⟨e1i, e1j, e1a, e1b, e3⟩ := re4m hm
  obtain ⟨hP, hD⟩ := y_eq e1i e1j e1a e1b hP hD
  exact W.lret hx hb hr (fun t9 ht hW => ⟨⟨_, (), rfl, e3.symm, by rw [ht]; exact hP, hD⟩, hS.F ht⟩) hS.2.2 d_Model_steps_387
def m_Model_steps_b361 (n : Nat) (i : Nat → Int32) (j : Nat → Int64) (a : Nat → Nat → Int32) (b : Nat → Nat → Int64) (v1 : Int32) (v5 : Int32) (v6 : Int32) (v7 : Int32) (v8 : Int32) (s0 : Int32) (s1 : Int32) (s2 : Int32) (s3 : Int32) (s4 : Int32) (s5 : Int32) (s6 : Int32) (s7 : Int32) (s8 : Int32) : Option ((Nat → Int32) × (Nat → Int64) × (Nat → Nat → Int32) × (Nat → Nat → Int64) × Int64) := ck v1 8 (om (m_Model_draws n i j a b s8 s7 s6 s5 s4 s3 s2 s1 s0 (a 42 v1.toNatClampNeg) (1 : Int32)) (fun i_3 j_4 a_5 b_6 r_7 => m_Model_steps_b371 n i_3 j_4 a_5 b_6 v1 v5 v6 v7 v8))
set_option maxHeartbeats 4000000 in
set_option maxRecDepth 100000 in
theorem lb_Model_steps_361 (l : Launch) (dC : Nat → ClassId) (dI : Nat → Nat → Nat) (cI cJ cB : ClassId) (adK adV adA : Nat → Nat) (h : Nat) (v : Nat → Nat) (n : Nat) {p : Program} {e : Env} {s : State} {m : MethodId} {args : Array Value} {below : List Frame} {meth : Method} {c : Code} {A : Nat → Prop} (hx : p.tables.exec = Jvm.exec) (hb : c.code = b_Model_steps) (hml : c.maxLocals = 10) (hown : s.vm.findClass R_Model = some m.cls) (hts : ∀ w ∈ w_Model_steps, w.before args s = true) (hK : va_K (dC, dI) classes [(cI, .int), (cJ, .long), (cB, .byte)] s) (hE : tw_E adK adV adA A s s.heap) (hA : ∀ q : Nat, s.heap.size ≤ q → A q) (hr : meth.sig.returnType = (some .long)) (hlocks : meth.locks = false) {i2 : Nat → Int32} {j2 : Nat → Int64} {a2 : Nat → Nat → Int32} {b2 : Nat → Nat → Int64} {r2 : Int64} (i : Nat → Int32) (j : Nat → Int64) (a : Nat → Nat → Int32) (b : Nat → Nat → Int64) (v1 : Int32) (v5 : Int32) (v6 : Int32) (v7 : Int32) (v8 : Int32) (s0 : Int32) (s1 : Int32) (s2 : Int32) (s3 : Int32) (s4 : Int32) (s5 : Int32) (s6 : Int32) (s7 : Int32) (s8 : Int32) (hm : m_Model_steps_b361 n i j a b v1 v5 v6 v7 v8 s0 s1 s2 s3 s4 s5 s6 s7 s8 = some (i2, j2, a2, b2, r2)) : ∀ (H : Heap) (locs : List Loc) (ls : Array Slot), va_P (dC, dI) classes (MW cI cJ cB h v i j a b) H → va_D A (MW cI cJ cB h v i j a b) → va_S A s.heap H locs → lv_has ls 10 [(0, .ref h), (1, .int v1), (5, .int v5), (6, .int v6), (7, .int v7), (8, .int v8)] → W p l e ({ frames := 3, cells := 0, slots := 0, locals := 102 } : Room) s m args below meth c H locs 0 0 (MQ below (va_Ql (xR r2) (yB dC dI cI cJ cB h v i2 j2 a2 b2 A) A) args s 0 0 A) (F0 m 361 ls [.int s0, .int s1, .int s2, .int s3, .int s4, .int s5, .int s6, .int s7, .int s8, .ref h]) := by
  have htt : ∀ w ∈ tw_T, w.before _ s = true := fun w h => hts w (List.mem_cons_of_mem _ h)
  intro H locs ls hP hD hS hl
  rw [m_Model_steps_b361] at hm
  refine lv_aload_n hx hb d_Model_steps_361 rfl (lv_at hl 0 rfl) ?_
  refine va_get (D := (dC, dI)) (ci := 12) (v := .ref ((v 42))) (C := R_Model) (T := F_Model) (N := 127) hx hb htt iw_Model hown hK hP 0 yo_12 rfl 42 (Nat.le_of_ble_eq_true rfl) (htt _ lk_Model_216) (fun _ h9 => h9) yg_42 d_Model_steps_362 ?_
  refine lv_iload_n hx hb d_Model_steps_365 rfl (lv_at hl 1 rfl) ?_
  obtain ⟨h_1, hm⟩ := ck_some hm
  refine va_iald hx hb hK hP 34 0 ya_42 rfl h_1 d_Model_steps_366 ?_
  refine lv_iconst (v := 1) hx hb d_Model_steps_367 (by decide) ?_
  obtain ⟨i_3, j_4, a_5, b_6, r_7, h_2, hm⟩ := om_some hm
  have hFc := x_free hD hS hA
  refine va_callv (va_runV (As := [.int s8, .int s7, .int s6, .int s5, .int s4, .int s3, .int s2, .int s1, .int s0, .int (a 42 v1.toNatClampNeg), .int 1]) (rest := []) ⟨hx, hb, hml, hown, hts⟩ (x_Model_draws l dC dI cI cJ cB adK adV adA h v H.size n h_2) (cwV 11 hts (tw_GV tw_cons cw_Model_draws lk_Model_838 in_Model_draws sel_Model_draws ini_Model) rfl rfl rfl ⟨rfl, hd_Model_draws⟩ ⟨Nat.le_of_ble_eq_true rfl, Nat.le_of_ble_eq_true rfl⟩) (ypV hK hP hD hS hE hFc yo_12 rfl) rfl rfl hl.1 rfl (lv_room (Nat.le_of_ble_eq_true rfl)) d_Model_steps_368 ⟨Nat.le_of_ble_eq_true rfl, Nat.le_of_ble_eq_true rfl⟩) hS (fun q _ h => hFc q h) hFc (fun u9 t9 H locs ht hvm e9 hB hz1 hk1 hS => ?_)
  obtain ⟨hP, hD⟩ := y_aft hB ht hFc
  clear hFc hk1 hz1 hvm hB ht
  exact lb_Model_steps_371 l dC dI cI cJ cB adK adV adA h v n hx hb hml hown hts hK hE hA hr hlocks _ _ _ _ _ _ _ _ _ hm _ _ _ hP hD hS (lv_sub hl [0, 1, 2, 3, 4, 5] rfl)
def m_Model_steps_b300 (n : Nat) (i : Nat → Int32) (j : Nat → Int64) (a : Nat → Nat → Int32) (b : Nat → Nat → Int64) (v1 : Int32) (v3 : Int32) (v5 : Int32) (v6 : Int32) (v7 : Int32) (v8 : Int32) : Option ((Nat → Int32) × (Nat → Int64) × (Nat → Nat → Int32) × (Nat → Nat → Int64) × Int64) := ck v1 8 (if ((a 43 v1.toNatClampNeg)) = ((1 : Int32)) then ck v1 8 (ck v1 8 (ck v1 8 (ck v1 8 (if v3 = ((0 : Int32)) then m_Model_steps_b361 n i j a b v1 v5 v6 v7 v8 (0 : Int32) v6 v5 v8 v7 (a 38 v1.toNatClampNeg) (a 37 v1.toNatClampNeg) (a 40 v1.toNatClampNeg) (a 39 v1.toNatClampNeg) else if v3 = ((1 : Int32)) then m_Model_steps_b361 n i j a b v1 v5 v6 v7 v8 (1 : Int32) v6 v5 v8 v7 (a 38 v1.toNatClampNeg) (a 37 v1.toNatClampNeg) (a 40 v1.toNatClampNeg) (a 39 v1.toNatClampNeg) else m_Model_steps_b361 n i j a b v1 v5 v6 v7 v8 (-1 : Int32) v6 v5 v8 v7 (a 38 v1.toNatClampNeg) (a 37 v1.toNatClampNeg) (a 40 v1.toNatClampNeg) (a 39 v1.toNatClampNeg))))) else m_Model_steps_b371 n i j a b v1 v5 v6 v7 v8)
set_option maxHeartbeats 4000000 in
set_option maxRecDepth 100000 in
theorem lb_Model_steps_300 (l : Launch) (dC : Nat → ClassId) (dI : Nat → Nat → Nat) (cI cJ cB : ClassId) (adK adV adA : Nat → Nat) (h : Nat) (v : Nat → Nat) (n : Nat) {p : Program} {e : Env} {s : State} {m : MethodId} {args : Array Value} {below : List Frame} {meth : Method} {c : Code} {A : Nat → Prop} (hx : p.tables.exec = Jvm.exec) (hb : c.code = b_Model_steps) (hml : c.maxLocals = 10) (hown : s.vm.findClass R_Model = some m.cls) (hts : ∀ w ∈ w_Model_steps, w.before args s = true) (hK : va_K (dC, dI) classes [(cI, .int), (cJ, .long), (cB, .byte)] s) (hE : tw_E adK adV adA A s s.heap) (hA : ∀ q : Nat, s.heap.size ≤ q → A q) (hr : meth.sig.returnType = (some .long)) (hlocks : meth.locks = false) {i2 : Nat → Int32} {j2 : Nat → Int64} {a2 : Nat → Nat → Int32} {b2 : Nat → Nat → Int64} {r2 : Int64} (i : Nat → Int32) (j : Nat → Int64) (a : Nat → Nat → Int32) (b : Nat → Nat → Int64) (v1 : Int32) (v3 : Int32) (v5 : Int32) (v6 : Int32) (v7 : Int32) (v8 : Int32) (hm : m_Model_steps_b300 n i j a b v1 v3 v5 v6 v7 v8 = some (i2, j2, a2, b2, r2)) : ∀ (H : Heap) (locs : List Loc) (ls : Array Slot), va_P (dC, dI) classes (MW cI cJ cB h v i j a b) H → va_D A (MW cI cJ cB h v i j a b) → va_S A s.heap H locs → lv_has ls 10 [(0, .ref h), (1, .int v1), (3, .int v3), (5, .int v5), (6, .int v6), (7, .int v7), (8, .int v8)] → W p l e ({ frames := 3, cells := 0, slots := 0, locals := 102 } : Room) s m args below meth c H locs 0 0 (MQ below (va_Ql (xR r2) (yB dC dI cI cJ cB h v i2 j2 a2 b2 A) A) args s 0 0 A) (F0 m 300 ls []) := by
  have htt : ∀ w ∈ tw_T, w.before _ s = true := fun w h => hts w (List.mem_cons_of_mem _ h)
  intro H locs ls hP hD hS hl
  rw [m_Model_steps_b300] at hm
  refine lv_aload_n hx hb d_Model_steps_300 rfl (lv_at hl 0 rfl) ?_
  refine va_get (D := (dC, dI)) (ci := 12) (v := .ref ((v 43))) (C := R_Model) (T := F_Model) (N := 127) hx hb htt iw_Model hown hK hP 0 yo_12 rfl 43 (Nat.le_of_ble_eq_true rfl) (htt _ lk_Model_219) (fun _ h9 => h9) yg_43 d_Model_steps_301 ?_
  refine lv_iload_n hx hb d_Model_steps_304 rfl (lv_at hl 1 rfl) ?_
  obtain ⟨h_1, hm⟩ := ck_some hm
  refine va_iald hx hb hK hP 35 0 ya_43 rfl h_1 d_Model_steps_305 ?_
  refine lv_iconst (v := 1) hx hb d_Model_steps_306 (by decide) ?_
  refine lv_icmp_ne (tgt := 371) hx hb d_Model_steps_307 (by decide) (fun c_2 => ?_) (fun c_2 => ?_)
  · replace hm := if_f c_2 hm
    exact lb_Model_steps_371 l dC dI cI cJ cB adK adV adA h v n hx hb hml hown hts hK hE hA hr hlocks _ _ _ _ _ _ _ _ _ hm _ _ _ hP hD hS (lv_sub hl [0, 1, 3, 4, 5, 6] rfl)
  · replace hm := if_t c_2 hm
    refine lv_aload_n hx hb d_Model_steps_310 rfl (lv_at hl 0 rfl) ?_
    refine lv_aload_n hx hb d_Model_steps_311 rfl (lv_at hl 0 rfl) ?_
    refine va_get (D := (dC, dI)) (ci := 12) (v := .ref ((v 39))) (C := R_Model) (T := F_Model) (N := 127) hx hb htt iw_Model hown hK hP 0 yo_12 rfl 39 (Nat.le_of_ble_eq_true rfl) (htt _ lk_Model_207) (fun _ h9 => h9) yg_39 d_Model_steps_312 ?_
    refine lv_iload_n hx hb d_Model_steps_315 rfl (lv_at hl 1 rfl) ?_
    obtain ⟨h_3, hm⟩ := ck_some hm
    refine va_iald hx hb hK hP 31 0 ya_39 rfl h_3 d_Model_steps_316 ?_
    refine lv_aload_n hx hb d_Model_steps_317 rfl (lv_at hl 0 rfl) ?_
    refine va_get (D := (dC, dI)) (ci := 12) (v := .ref ((v 40))) (C := R_Model) (T := F_Model) (N := 127) hx hb htt iw_Model hown hK hP 0 yo_12 rfl 40 (Nat.le_of_ble_eq_true rfl) (htt _ lk_Model_210) (fun _ h9 => h9) yg_40 d_Model_steps_318 ?_
    refine lv_iload_n hx hb d_Model_steps_321 rfl (lv_at hl 1 rfl) ?_
    obtain ⟨h_4, hm⟩ := ck_some hm
    refine va_iald hx hb hK hP 32 0 ya_40 rfl h_4 d_Model_steps_322 ?_
    refine lv_aload_n hx hb d_Model_steps_323 rfl (lv_at hl 0 rfl) ?_
    refine va_get (D := (dC, dI)) (ci := 12) (v := .ref ((v 37))) (C := R_Model) (T := F_Model) (N := 127) hx hb htt iw_Model hown hK hP 0 yo_12 rfl 37 (Nat.le_of_ble_eq_true rfl) (htt _ lk_Model_201) (fun _ h9 => h9) yg_37 d_Model_steps_324 ?_
    refine lv_iload_n hx hb d_Model_steps_327 rfl (lv_at hl 1 rfl) ?_
    obtain ⟨h_5, hm⟩ := ck_some hm
    refine va_iald hx hb hK hP 29 0 ya_37 rfl h_5 d_Model_steps_328 ?_
    refine lv_aload_n hx hb d_Model_steps_329 rfl (lv_at hl 0 rfl) ?_
    refine va_get (D := (dC, dI)) (ci := 12) (v := .ref ((v 38))) (C := R_Model) (T := F_Model) (N := 127) hx hb htt iw_Model hown hK hP 0 yo_12 rfl 38 (Nat.le_of_ble_eq_true rfl) (htt _ lk_Model_204) (fun _ h9 => h9) yg_38 d_Model_steps_330 ?_
    refine lv_iload_n hx hb d_Model_steps_333 rfl (lv_at hl 1 rfl) ?_
    obtain ⟨h_6, hm⟩ := ck_some hm
    refine va_iald hx hb hK hP 30 0 ya_38 rfl h_6 d_Model_steps_334 ?_
    refine lv_iload hx hb d_Model_steps_335 (lv_at hl 5 rfl) ?_
    refine lv_iload hx hb d_Model_steps_337 (lv_at hl 6 rfl) ?_
    refine lv_iload hx hb d_Model_steps_339 (lv_at hl 3 rfl) ?_
    refine lv_iload hx hb d_Model_steps_341 (lv_at hl 4 rfl) ?_
    refine lv_iload_n hx hb d_Model_steps_343 rfl (lv_at hl 2 rfl) ?_
    refine lv_if_ne (tgt := 351) hx hb d_Model_steps_344 (by decide) (fun c_7 => ?_) (fun c_7 => ?_)
    · replace hm := if_f c_7 hm
      refine lv_iload_n hx hb d_Model_steps_351 rfl (lv_at hl 2 rfl) ?_
      refine lv_iconst (v := 1) hx hb d_Model_steps_352 (by decide) ?_
      refine lv_icmp_ne (tgt := 360) hx hb d_Model_steps_353 (by decide) (fun c_8 => ?_) (fun c_8 => ?_)
      · replace hm := if_f c_8 hm
        refine lv_iconst (v := -1) hx hb d_Model_steps_360 (by decide) ?_
        exact lb_Model_steps_361 l dC dI cI cJ cB adK adV adA h v n hx hb hml hown hts hK hE hA hr hlocks _ _ _ _ _ _ _ _ _ _ _ _ _ _ _ _ _ _ hm _ _ _ hP hD hS (lv_sub hl [0, 1, 3, 4, 5, 6] rfl)
      · replace hm := if_t c_8 hm
        refine lv_iconst (v := 1) hx hb d_Model_steps_356 (by decide) ?_
        refine lv_goto (tgt := 361) hx hb d_Model_steps_357 (by decide) ?_
        exact lb_Model_steps_361 l dC dI cI cJ cB adK adV adA h v n hx hb hml hown hts hK hE hA hr hlocks _ _ _ _ _ _ _ _ _ _ _ _ _ _ _ _ _ _ hm _ _ _ hP hD hS (lv_sub hl [0, 1, 3, 4, 5, 6] rfl)
    · replace hm := if_t c_7 hm
      refine lv_iconst (v := 0) hx hb d_Model_steps_347 (by decide) ?_
      refine lv_goto (tgt := 361) hx hb d_Model_steps_348 (by decide) ?_
      exact lb_Model_steps_361 l dC dI cI cJ cB adK adV adA h v n hx hb hml hown hts hK hE hA hr hlocks _ _ _ _ _ _ _ _ _ _ _ _ _ _ _ _ _ _ hm _ _ _ hP hD hS (lv_sub hl [0, 1, 3, 4, 5, 6] rfl)
def m_Model_steps_b287 (n : Nat) (i : Nat → Int32) (j : Nat → Int64) (a : Nat → Nat → Int32) (b : Nat → Nat → Int64) (v1 : Int32) (v5 : Int32) (v6 : Int32) (v7 : Int32) (v8 : Int32) (s0 : Int32) (s1 : Int32) (s2 : Int32) (s3 : Int32) (s4 : Int32) (s5 : Int32) (s6 : Int32) (s7 : Int32) (s8 : Int32) : Option ((Nat → Int32) × (Nat → Int64) × (Nat → Nat → Int32) × (Nat → Nat → Int64) × Int64) := ck v1 8 (om (m_Model_draws n i j a b s8 s7 s6 s5 s4 s3 s2 s1 s0 (a 42 v1.toNatClampNeg) (0 : Int32)) (fun i_3 j_4 a_5 b_6 r_7 => m_Model_steps_b371 n i_3 j_4 a_5 b_6 v1 v5 v6 v7 v8))
set_option maxHeartbeats 4000000 in
set_option maxRecDepth 100000 in
theorem lb_Model_steps_287 (l : Launch) (dC : Nat → ClassId) (dI : Nat → Nat → Nat) (cI cJ cB : ClassId) (adK adV adA : Nat → Nat) (h : Nat) (v : Nat → Nat) (n : Nat) {p : Program} {e : Env} {s : State} {m : MethodId} {args : Array Value} {below : List Frame} {meth : Method} {c : Code} {A : Nat → Prop} (hx : p.tables.exec = Jvm.exec) (hb : c.code = b_Model_steps) (hml : c.maxLocals = 10) (hown : s.vm.findClass R_Model = some m.cls) (hts : ∀ w ∈ w_Model_steps, w.before args s = true) (hK : va_K (dC, dI) classes [(cI, .int), (cJ, .long), (cB, .byte)] s) (hE : tw_E adK adV adA A s s.heap) (hA : ∀ q : Nat, s.heap.size ≤ q → A q) (hr : meth.sig.returnType = (some .long)) (hlocks : meth.locks = false) {i2 : Nat → Int32} {j2 : Nat → Int64} {a2 : Nat → Nat → Int32} {b2 : Nat → Nat → Int64} {r2 : Int64} (i : Nat → Int32) (j : Nat → Int64) (a : Nat → Nat → Int32) (b : Nat → Nat → Int64) (v1 : Int32) (v5 : Int32) (v6 : Int32) (v7 : Int32) (v8 : Int32) (s0 : Int32) (s1 : Int32) (s2 : Int32) (s3 : Int32) (s4 : Int32) (s5 : Int32) (s6 : Int32) (s7 : Int32) (s8 : Int32) (hm : m_Model_steps_b287 n i j a b v1 v5 v6 v7 v8 s0 s1 s2 s3 s4 s5 s6 s7 s8 = some (i2, j2, a2, b2, r2)) : ∀ (H : Heap) (locs : List Loc) (ls : Array Slot), va_P (dC, dI) classes (MW cI cJ cB h v i j a b) H → va_D A (MW cI cJ cB h v i j a b) → va_S A s.heap H locs → lv_has ls 10 [(0, .ref h), (1, .int v1), (5, .int v5), (6, .int v6), (7, .int v7), (8, .int v8)] → W p l e ({ frames := 3, cells := 0, slots := 0, locals := 102 } : Room) s m args below meth c H locs 0 0 (MQ below (va_Ql (xR r2) (yB dC dI cI cJ cB h v i2 j2 a2 b2 A) A) args s 0 0 A) (F0 m 287 ls [.int s0, .int s1, .int s2, .int s3, .int s4, .int s5, .int s6, .int s7, .int s8, .ref h]) := by
  have htt : ∀ w ∈ tw_T, w.before _ s = true := fun w h => hts w (List.mem_cons_of_mem _ h)
  intro H locs ls hP hD hS hl
  rw [m_Model_steps_b287] at hm
  refine lv_aload_n hx hb d_Model_steps_287 rfl (lv_at hl 0 rfl) ?_
  refine va_get (D := (dC, dI)) (ci := 12) (v := .ref ((v 42))) (C := R_Model) (T := F_Model) (N := 127) hx hb htt iw_Model hown hK hP 0 yo_12 rfl 42 (Nat.le_of_ble_eq_true rfl) (htt _ lk_Model_216) (fun _ h9 => h9) yg_42 d_Model_steps_288 ?_
  refine lv_iload_n hx hb d_Model_steps_291 rfl (lv_at hl 1 rfl) ?_
  obtain ⟨h_1, hm⟩ := ck_some hm
  refine va_iald hx hb hK hP 34 0 ya_42 rfl h_1 d_Model_steps_292 ?_
  refine lv_iconst (v := 0) hx hb d_Model_steps_293 (by decide) ?_
  obtain ⟨i_3, j_4, a_5, b_6, r_7, h_2, hm⟩ := om_some hm
  have hFc := x_free hD hS hA
  refine va_callv (va_runV (As := [.int s8, .int s7, .int s6, .int s5, .int s4, .int s3, .int s2, .int s1, .int s0, .int (a 42 v1.toNatClampNeg), .int 0]) (rest := []) ⟨hx, hb, hml, hown, hts⟩ (x_Model_draws l dC dI cI cJ cB adK adV adA h v H.size n h_2) (cwV 11 hts (tw_GV tw_cons cw_Model_draws lk_Model_838 in_Model_draws sel_Model_draws ini_Model) rfl rfl rfl ⟨rfl, hd_Model_draws⟩ ⟨Nat.le_of_ble_eq_true rfl, Nat.le_of_ble_eq_true rfl⟩) (ypV hK hP hD hS hE hFc yo_12 rfl) rfl rfl hl.1 rfl (lv_room (Nat.le_of_ble_eq_true rfl)) d_Model_steps_294 ⟨Nat.le_of_ble_eq_true rfl, Nat.le_of_ble_eq_true rfl⟩) hS (fun q _ h => hFc q h) hFc (fun u9 t9 H locs ht hvm e9 hB hz1 hk1 hS => ?_)
  obtain ⟨hP, hD⟩ := y_aft hB ht hFc
  clear hFc hk1 hz1 hvm hB ht
  refine lv_goto (tgt := 371) hx hb d_Model_steps_297 (by decide) ?_
  exact lb_Model_steps_371 l dC dI cI cJ cB adK adV adA h v n hx hb hml hown hts hK hE hA hr hlocks _ _ _ _ _ _ _ _ _ hm _ _ _ hP hD hS (lv_sub hl [0, 1, 2, 3, 4, 5] rfl)
def m_Model_steps_b218 (n : Nat) (i : Nat → Int32) (j : Nat → Int64) (a : Nat → Nat → Int32) (b : Nat → Nat → Int64) (v1 : Int32) (v3 : Int32) (v5 : Int32) (v6 : Int32) (v7 : Int32) (v8 : Int32) (s0 : Int32) : Option ((Nat → Int32) × (Nat → Int64) × (Nat → Nat → Int32) × (Nat → Nat → Int64) × Int64) := ck v1 8 (if ((a 43 v1.toNatClampNeg)) = ((1 : Int32)) then if s0 = ((0 : Int32)) then m_Model_steps_b300 n i j a b v1 v3 v5 v6 v7 v8 else ck v1 8 (ck v1 8 (ck v1 8 (ck v1 8 (if v3 = ((3 : Int32)) then m_Model_steps_b287 n i j a b v1 v5 v6 v7 v8 (0 : Int32) v8 v7 v6 v5 (a 40 v1.toNatClampNeg) (a 39 v1.toNatClampNeg) (a 38 v1.toNatClampNeg) (a 37 v1.toNatClampNeg) else if v3 = ((2 : Int32)) then m_Model_steps_b287 n i j a b v1 v5 v6 v7 v8 (1 : Int32) v8 v7 v6 v5 (a 40 v1.toNatClampNeg) (a 39 v1.toNatClampNeg) (a 38 v1.toNatClampNeg) (a 37 v1.toNatClampNeg) else m_Model_steps_b287 n i j a b v1 v5 v6 v7 v8 (-1 : Int32) v8 v7 v6 v5 (a 40 v1.toNatClampNeg) (a 39 v1.toNatClampNeg) (a 38 v1.toNatClampNeg) (a 37 v1.toNatClampNeg))))) else m_Model_steps_b300 n i j a b v1 v3 v5 v6 v7 v8)
set_option maxHeartbeats 4000000 in
set_option maxRecDepth 100000 in
theorem lb_Model_steps_218 (l : Launch) (dC : Nat → ClassId) (dI : Nat → Nat → Nat) (cI cJ cB : ClassId) (adK adV adA : Nat → Nat) (h : Nat) (v : Nat → Nat) (n : Nat) {p : Program} {e : Env} {s : State} {m : MethodId} {args : Array Value} {below : List Frame} {meth : Method} {c : Code} {A : Nat → Prop} (hx : p.tables.exec = Jvm.exec) (hb : c.code = b_Model_steps) (hml : c.maxLocals = 10) (hown : s.vm.findClass R_Model = some m.cls) (hts : ∀ w ∈ w_Model_steps, w.before args s = true) (hK : va_K (dC, dI) classes [(cI, .int), (cJ, .long), (cB, .byte)] s) (hE : tw_E adK adV adA A s s.heap) (hA : ∀ q : Nat, s.heap.size ≤ q → A q) (hr : meth.sig.returnType = (some .long)) (hlocks : meth.locks = false) {i2 : Nat → Int32} {j2 : Nat → Int64} {a2 : Nat → Nat → Int32} {b2 : Nat → Nat → Int64} {r2 : Int64} (i : Nat → Int32) (j : Nat → Int64) (a : Nat → Nat → Int32) (b : Nat → Nat → Int64) (v1 : Int32) (v3 : Int32) (v5 : Int32) (v6 : Int32) (v7 : Int32) (v8 : Int32) (s0 : Int32) (hm : m_Model_steps_b218 n i j a b v1 v3 v5 v6 v7 v8 s0 = some (i2, j2, a2, b2, r2)) : ∀ (H : Heap) (locs : List Loc) (ls : Array Slot), va_P (dC, dI) classes (MW cI cJ cB h v i j a b) H → va_D A (MW cI cJ cB h v i j a b) → va_S A s.heap H locs → lv_has ls 10 [(0, .ref h), (1, .int v1), (3, .int v3), (5, .int v5), (6, .int v6), (7, .int v7), (8, .int v8)] → W p l e ({ frames := 3, cells := 0, slots := 0, locals := 102 } : Room) s m args below meth c H locs 0 0 (MQ below (va_Ql (xR r2) (yB dC dI cI cJ cB h v i2 j2 a2 b2 A) A) args s 0 0 A) (F0 m 218 ls [.int s0]) := by
  have htt : ∀ w ∈ tw_T, w.before _ s = true := fun w h => hts w (List.mem_cons_of_mem _ h)
  intro H locs ls hP hD hS hl
  rw [m_Model_steps_b218] at hm
  refine lv_istore (lv' := [(9, .int s0), (0, .ref h), (1, .int v1), (3, .int v3), (5, .int v5), (6, .int v6), (7, .int v7), (8, .int v8)]) hx hb d_Model_steps_218 hl (by decide) rfl (fun ls hl => ?_)
  refine lv_aload_n hx hb d_Model_steps_220 rfl (lv_at hl 1 rfl) ?_
  refine va_get (D := (dC, dI)) (ci := 12) (v := .ref ((v 43))) (C := R_Model) (T := F_Model) (N := 127) hx hb htt iw_Model hown hK hP 0 yo_12 rfl 43 (Nat.le_of_ble_eq_true rfl) (htt _ lk_Model_219) (fun _ h9 => h9) yg_43 d_Model_steps_221 ?_
  refine lv_iload_n hx hb d_Model_steps_224 rfl (lv_at hl 2 rfl) ?_
  obtain ⟨h_1, hm⟩ := ck_some hm
  refine va_iald hx hb hK hP 35 0 ya_43 rfl h_1 d_Model_steps_225 ?_
  refine lv_iconst (v := 1) hx hb d_Model_steps_226 (by decide) ?_
  refine lv_icmp_ne (tgt := 300) hx hb d_Model_steps_227 (by decide) (fun c_2 => ?_) (fun c_2 => ?_)
  · replace hm := if_f c_2 hm
    exact lb_Model_steps_300 l dC dI cI cJ cB adK adV adA h v n hx hb hml hown hts hK hE hA hr hlocks _ _ _ _ _ _ _ _ _ _ hm _ _ _ hP hD hS (lv_sub hl [1, 2, 3, 4, 5, 6, 7] rfl)
  · replace hm := if_t c_2 hm
    refine lv_iload hx hb d_Model_steps_230 (lv_at hl 0 rfl) ?_
    refine lv_if_eq (tgt := 300) hx hb d_Model_steps_232 (by decide) (fun c_3 => ?_) (fun c_3 => ?_)
    · replace hm := if_t c_3 hm
      exact lb_Model_steps_300 l dC dI cI cJ cB adK adV adA h v n hx hb hml hown hts hK hE hA hr hlocks _ _ _ _ _ _ _ _ _ _ hm _ _ _ hP hD hS (lv_sub hl [1, 2, 3, 4, 5, 6, 7] rfl)
    · replace hm := if_f c_3 hm
      refine lv_aload_n hx hb d_Model_steps_235 rfl (lv_at hl 1 rfl) ?_
      refine lv_aload_n hx hb d_Model_steps_236 rfl (lv_at hl 1 rfl) ?_
      refine va_get (D := (dC, dI)) (ci := 12) (v := .ref ((v 37))) (C := R_Model) (T := F_Model) (N := 127) hx hb htt iw_Model hown hK hP 0 yo_12 rfl 37 (Nat.le_of_ble_eq_true rfl) (htt _ lk_Model_201) (fun _ h9 => h9) yg_37 d_Model_steps_237 ?_
      refine lv_iload_n hx hb d_Model_steps_240 rfl (lv_at hl 2 rfl) ?_
      obtain ⟨h_4, hm⟩ := ck_some hm
      refine va_iald hx hb hK hP 29 0 ya_37 rfl h_4 d_Model_steps_241 ?_
      refine lv_aload_n hx hb d_Model_steps_242 rfl (lv_at hl 1 rfl) ?_
      refine va_get (D := (dC, dI)) (ci := 12) (v := .ref ((v 38))) (C := R_Model) (T := F_Model) (N := 127) hx hb htt iw_Model hown hK hP 0 yo_12 rfl 38 (Nat.le_of_ble_eq_true rfl) (htt _ lk_Model_204) (fun _ h9 => h9) yg_38 d_Model_steps_243 ?_
      refine lv_iload_n hx hb d_Model_steps_246 rfl (lv_at hl 2 rfl) ?_
      obtain ⟨h_5, hm⟩ := ck_some hm
      refine va_iald hx hb hK hP 30 0 ya_38 rfl h_5 d_Model_steps_247 ?_
      refine lv_aload_n hx hb d_Model_steps_248 rfl (lv_at hl 1 rfl) ?_
      refine va_get (D := (dC, dI)) (ci := 12) (v := .ref ((v 39))) (C := R_Model) (T := F_Model) (N := 127) hx hb htt iw_Model hown hK hP 0 yo_12 rfl 39 (Nat.le_of_ble_eq_true rfl) (htt _ lk_Model_207) (fun _ h9 => h9) yg_39 d_Model_steps_249 ?_
      refine lv_iload_n hx hb d_Model_steps_252 rfl (lv_at hl 2 rfl) ?_
      obtain ⟨h_6, hm⟩ := ck_some hm
      refine va_iald hx hb hK hP 31 0 ya_39 rfl h_6 d_Model_steps_253 ?_
      refine lv_aload_n hx hb d_Model_steps_254 rfl (lv_at hl 1 rfl) ?_
      refine va_get (D := (dC, dI)) (ci := 12) (v := .ref ((v 40))) (C := R_Model) (T := F_Model) (N := 127) hx hb htt iw_Model hown hK hP 0 yo_12 rfl 40 (Nat.le_of_ble_eq_true rfl) (htt _ lk_Model_210) (fun _ h9 => h9) yg_40 d_Model_steps_255 ?_
      refine lv_iload_n hx hb d_Model_steps_258 rfl (lv_at hl 2 rfl) ?_
      obtain ⟨h_7, hm⟩ := ck_some hm
      refine va_iald hx hb hK hP 32 0 ya_40 rfl h_7 d_Model_steps_259 ?_
      refine lv_iload hx hb d_Model_steps_260 (lv_at hl 4 rfl) ?_
      refine lv_iload hx hb d_Model_steps_262 (lv_at hl 5 rfl) ?_
      refine lv_iload hx hb d_Model_steps_264 (lv_at hl 6 rfl) ?_
      refine lv_iload hx hb d_Model_steps_266 (lv_at hl 7 rfl) ?_
      refine lv_iload_n hx hb d_Model_steps_268 rfl (lv_at hl 3 rfl) ?_
      refine lv_iconst (v := 3) hx hb d_Model_steps_269 (by decide) ?_
      refine lv_icmp_ne (tgt := 277) hx hb d_Model_steps_270 (by decide) (fun c_8 => ?_) (fun c_8 => ?_)
      · replace hm := if_f c_8 hm
        refine lv_iload_n hx hb d_Model_steps_277 rfl (lv_at hl 3 rfl) ?_
        refine lv_iconst (v := 2) hx hb d_Model_steps_278 (by decide) ?_
        refine lv_icmp_ne (tgt := 286) hx hb d_Model_steps_279 (by decide) (fun c_9 => ?_) (fun c_9 => ?_)
        · replace hm := if_f c_9 hm
          refine lv_iconst (v := -1) hx hb d_Model_steps_286 (by decide) ?_
          exact lb_Model_steps_287 l dC dI cI cJ cB adK adV adA h v n hx hb hml hown hts hK hE hA hr hlocks _ _ _ _ _ _ _ _ _ _ _ _ _ _ _ _ _ _ hm _ _ _ hP hD hS (lv_sub hl [1, 2, 4, 5, 6, 7] rfl)
        · replace hm := if_t c_9 hm
          refine lv_iconst (v := 1) hx hb d_Model_steps_282 (by decide) ?_
          refine lv_goto (tgt := 287) hx hb d_Model_steps_283 (by decide) ?_
          exact lb_Model_steps_287 l dC dI cI cJ cB adK adV adA h v n hx hb hml hown hts hK hE hA hr hlocks _ _ _ _ _ _ _ _ _ _ _ _ _ _ _ _ _ _ hm _ _ _ hP hD hS (lv_sub hl [1, 2, 4, 5, 6, 7] rfl)
      · replace hm := if_t c_8 hm
        refine lv_iconst (v := 0) hx hb d_Model_steps_273 (by decide) ?_
        refine lv_goto (tgt := 287) hx hb d_Model_steps_274 (by decide) ?_
        exact lb_Model_steps_287 l dC dI cI cJ cB adK adV adA h v n hx hb hml hown hts hK hE hA hr hlocks _ _ _ _ _ _ _ _ _ _ _ _ _ _ _ _ _ _ hm _ _ _ hP hD hS (lv_sub hl [1, 2, 4, 5, 6, 7] rfl)
def m_Model_steps_b217 (n : Nat) (i : Nat → Int32) (j : Nat → Int64) (a : Nat → Nat → Int32) (b : Nat → Nat → Int64) (v1 : Int32) (v3 : Int32) (v5 : Int32) (v6 : Int32) (v7 : Int32) (v8 : Int32) : Option ((Nat → Int32) × (Nat → Int64) × (Nat → Nat → Int32) × (Nat → Nat → Int64) × Int64) := m_Model_steps_b218 n i j a b v1 v3 v5 v6 v7 v8 (0 : Int32)
set_option maxHeartbeats 4000000 in
set_option maxRecDepth 100000 in
theorem lb_Model_steps_217 (l : Launch) (dC : Nat → ClassId) (dI : Nat → Nat → Nat) (cI cJ cB : ClassId) (adK adV adA : Nat → Nat) (h : Nat) (v : Nat → Nat) (n : Nat) {p : Program} {e : Env} {s : State} {m : MethodId} {args : Array Value} {below : List Frame} {meth : Method} {c : Code} {A : Nat → Prop} (hx : p.tables.exec = Jvm.exec) (hb : c.code = b_Model_steps) (hml : c.maxLocals = 10) (hown : s.vm.findClass R_Model = some m.cls) (hts : ∀ w ∈ w_Model_steps, w.before args s = true) (hK : va_K (dC, dI) classes [(cI, .int), (cJ, .long), (cB, .byte)] s) (hE : tw_E adK adV adA A s s.heap) (hA : ∀ q : Nat, s.heap.size ≤ q → A q) (hr : meth.sig.returnType = (some .long)) (hlocks : meth.locks = false) {i2 : Nat → Int32} {j2 : Nat → Int64} {a2 : Nat → Nat → Int32} {b2 : Nat → Nat → Int64} {r2 : Int64} (i : Nat → Int32) (j : Nat → Int64) (a : Nat → Nat → Int32) (b : Nat → Nat → Int64) (v1 : Int32) (v3 : Int32) (v5 : Int32) (v6 : Int32) (v7 : Int32) (v8 : Int32) (hm : m_Model_steps_b217 n i j a b v1 v3 v5 v6 v7 v8 = some (i2, j2, a2, b2, r2)) : ∀ (H : Heap) (locs : List Loc) (ls : Array Slot), va_P (dC, dI) classes (MW cI cJ cB h v i j a b) H → va_D A (MW cI cJ cB h v i j a b) → va_S A s.heap H locs → lv_has ls 10 [(0, .ref h), (1, .int v1), (3, .int v3), (5, .int v5), (6, .int v6), (7, .int v7), (8, .int v8)] → W p l e ({ frames := 3, cells := 0, slots := 0, locals := 102 } : Room) s m args below meth c H locs 0 0 (MQ below (va_Ql (xR r2) (yB dC dI cI cJ cB h v i2 j2 a2 b2 A) A) args s 0 0 A) (F0 m 217 ls []) := by
  have htt : ∀ w ∈ tw_T, w.before _ s = true := fun w h => hts w (List.mem_cons_of_mem _ h)
  intro H locs ls hP hD hS hl
  rw [m_Model_steps_b217] at hm
  refine lv_iconst (v := 0) hx hb d_Model_steps_217 (by decide) ?_
  exact lb_Model_steps_218 l dC dI cI cJ cB adK adV adA h v n hx hb hml hown hts hK hE hA hr hlocks _ _ _ _ _ _ _ _ _ _ _ hm _ _ _ hP hD hS (lv_sub hl [0, 1, 2, 3, 4, 5, 6] rfl)
def m_Model_steps_b161 (n : Nat) (i : Nat → Int32) (j : Nat → Int64) (a : Nat → Nat → Int32) (b : Nat → Nat → Int64) (v1 : Int32) (v3 : Int32) (v5 : Int32) (v6 : Int32) (v7 : Int32) (s0 : Int32) (s1 : Int32) : Option ((Nat → Int32) × (Nat → Int64) × (Nat → Nat → Int32) × (Nat → Nat → Int64) × Int64) := ob1 (s1 + s0 : Int32) (fun x_1 => ob0 (m_Model_isBeyond n v5) (fun r_3 => if r_3 = ((0 : Int32)) then ob0 (m_Model_isBeyond n v6) (fun r_12 => if r_12 = ((0 : Int32)) then ob0 (m_Model_isBeyond n v7) (fun r_21 => if r_21 = ((0 : Int32)) then ob0 (m_Model_isBeyond n x_1) (fun r_30 => if r_30 = ((0 : Int32)) then if v3 < ((2 : Int32)) then m_Model_steps_b217 n i j a b v1 v3 v5 v6 v7 x_1 else if ((4 : Int32)) < v3 then m_Model_steps_b217 n i j a b v1 v3 v5 v6 v7 x_1 else m_Model_steps_b218 n i j a b v1 v3 v5 v6 v7 x_1 (1 : Int32) else om (m_Model_fails n i j a b (7 : Int32)) (fun i_35 j_36 a_37 b_38 r_39 => some (i_35, j_36, a_37, b_38, r_39))) else om (m_Model_fails n i j a b (7 : Int32)) (fun i_24 j_25 a_26 b_27 r_28 => some (i_24, j_25, a_26, b_27, r_28))) else om (m_Model_fails n i j a b (7 : Int32)) (fun i_15 j_16 a_17 b_18 r_19 => some (i_15, j_16, a_17, b_18, r_19))) else om (m_Model_fails n i j a b (7 : Int32)) (fun i_6 j_7 a_8 b_9 r_10 => some (i_6, j_7, a_8, b_9, r_10))))
set_option maxHeartbeats 4000000 in
set_option maxRecDepth 100000 in
theorem lb_Model_steps_161 (l : Launch) (dC : Nat → ClassId) (dI : Nat → Nat → Nat) (cI cJ cB : ClassId) (adK adV adA : Nat → Nat) (h : Nat) (v : Nat → Nat) (n : Nat) {p : Program} {e : Env} {s : State} {m : MethodId} {args : Array Value} {below : List Frame} {meth : Method} {c : Code} {A : Nat → Prop} (hx : p.tables.exec = Jvm.exec) (hb : c.code = b_Model_steps) (hml : c.maxLocals = 10) (hown : s.vm.findClass R_Model = some m.cls) (hts : ∀ w ∈ w_Model_steps, w.before args s = true) (hK : va_K (dC, dI) classes [(cI, .int), (cJ, .long), (cB, .byte)] s) (hE : tw_E adK adV adA A s s.heap) (hA : ∀ q : Nat, s.heap.size ≤ q → A q) (hr : meth.sig.returnType = (some .long)) (hlocks : meth.locks = false) {i2 : Nat → Int32} {j2 : Nat → Int64} {a2 : Nat → Nat → Int32} {b2 : Nat → Nat → Int64} {r2 : Int64} (i : Nat → Int32) (j : Nat → Int64) (a : Nat → Nat → Int32) (b : Nat → Nat → Int64) (v1 : Int32) (v3 : Int32) (v5 : Int32) (v6 : Int32) (v7 : Int32) (s0 : Int32) (s1 : Int32) (hm : m_Model_steps_b161 n i j a b v1 v3 v5 v6 v7 s0 s1 = some (i2, j2, a2, b2, r2)) : ∀ (H : Heap) (locs : List Loc) (ls : Array Slot), va_P (dC, dI) classes (MW cI cJ cB h v i j a b) H → va_D A (MW cI cJ cB h v i j a b) → va_S A s.heap H locs → lv_has ls 10 [(0, .ref h), (1, .int v1), (3, .int v3), (5, .int v5), (6, .int v6), (7, .int v7)] → W p l e ({ frames := 3, cells := 0, slots := 0, locals := 102 } : Room) s m args below meth c H locs 0 0 (MQ below (va_Ql (xR r2) (yB dC dI cI cJ cB h v i2 j2 a2 b2 A) A) args s 0 0 A) (F0 m 161 ls [.int s0, .int s1]) := by
  have htt : ∀ w ∈ tw_T, w.before _ s = true := fun w h => hts w (List.mem_cons_of_mem _ h)
  intro H locs ls hP hD hS hl
  rw [m_Model_steps_b161] at hm
  refine lv_iadd hx hb d_Model_steps_161 ?_
  refine lv_topi (fun x_1 ex_1 => ?_)
  replace hm := ob1_at ex_1 hm
  refine lv_istore (lv' := [(8, .int x_1), (0, .ref h), (1, .int v1), (3, .int v3), (5, .int v5), (6, .int v6), (7, .int v7)]) hx hb d_Model_steps_162 hl (by decide) rfl (fun ls hl => ?_)
  refine lv_iload hx hb d_Model_steps_164 (lv_at hl 4 rfl) ?_
  obtain ⟨r_3, h_2, hm⟩ := ob0_some hm
  have hFc := x_free0 hS hA
  refine va_calli (va_runS (As := [.int v5]) (rest := []) ⟨hx, hb, hml, hown, hts⟩ (x_Model_isBeyond l H.size n h_2) (va_cwS 1 hts (tw_GS tw_cons cw_Model_isBeyond lk_Model_835 st_Model_isBeyond ini_Model) rfl rfl rfl hd_Model_isBeyond ⟨Nat.le_of_ble_eq_true rfl, Nat.le_of_ble_eq_true rfl⟩) xpS0 rfl rfl hl.1 rfl (lv_room (Nat.le_of_ble_eq_true rfl)) d_Model_steps_166 ⟨Nat.le_of_ble_eq_true rfl, Nat.le_of_ble_eq_true rfl⟩) hS (fun q _ h => hFc q h) hFc (fun r9 u9 t9 H locs ht hvm e9 hB hz1 hk1 hS => ?_)
  have e9 : r_3 = r9 := e9
  subst e9
  replace hP := x_keep hP hk1
  clear hFc hk1 hz1 hvm hB ht
  refine lv_if_ne (tgt := 196) hx hb d_Model_steps_169 (by decide) (fun c_4 => ?_) (fun c_4 => ?_)
  · replace hm := if_f c_4 hm
    refine lv_aload_n hx hb d_Model_steps_196 rfl (lv_at hl 1 rfl) ?_
    refine lv_bipush (v := 7) hx hb d_Model_steps_197 (by decide) ?_
    obtain ⟨i_6, j_7, a_8, b_9, r_10, h_5, hm⟩ := om_some hm
    have hFc := x_free hD hS hA
    refine va_calll (va_runV (As := [.int 7]) (rest := []) ⟨hx, hb, hml, hown, hts⟩ (x_Model_fails l dC dI cI cJ cB adK adV adA h v H.size n h_5) (cwV 1 hts (tw_GV tw_cons cw_Model_fails lk_Model_596 in_Model_fails sel_Model_fails ini_Model) rfl rfl rfl ⟨rfl, hd_Model_fails⟩ ⟨Nat.le_of_ble_eq_true rfl, Nat.le_of_ble_eq_true rfl⟩) (ypV hK hP hD hS hE hFc yo_12 rfl) rfl rfl hl.1 rfl (lv_room (Nat.le_of_ble_eq_true rfl)) d_Model_steps_199 ⟨Nat.le_of_ble_eq_true rfl, Nat.le_of_ble_eq_true rfl⟩) hS (fun q _ h => hFc q h) hFc (fun r9 u9 t9 H locs ht hvm e9 hB hz1 hk1 hS => ?_)
    have e9 : r_10 = r9 := e9
    subst e9
    obtain ⟨hP, hD⟩ := y_aft hB ht hFc
    clear hFc hk1 hz1 hvm hB ht
    obtain ⟨e1i, e1j, e1a, e1b, e3⟩ := re4m hm
    obtain ⟨hP, hD⟩ := y_eq e1i e1j e1a e1b hP hD
    exact W.lret hx hb hr (fun t9 ht hW => ⟨⟨_, (), rfl, e3.symm, by rw [ht]; exact hP, hD⟩, hS.F ht⟩) hS.2.2 d_Model_steps_202
  · replace hm := if_t c_4 hm
    refine lv_iload hx hb d_Model_steps_172 (lv_at hl 5 rfl) ?_
    obtain ⟨r_12, h_11, hm⟩ := ob0_some hm
    have hFc := x_free0 hS hA
    refine va_calli (va_runS (As := [.int v6]) (rest := []) ⟨hx, hb, hml, hown, hts⟩ (x_Model_isBeyond l H.size n h_11) (va_cwS 1 hts (tw_GS tw_cons cw_Model_isBeyond lk_Model_835 st_Model_isBeyond ini_Model) rfl rfl rfl hd_Model_isBeyond ⟨Nat.le_of_ble_eq_true rfl, Nat.le_of_ble_eq_true rfl⟩) xpS0 rfl rfl hl.1 rfl (lv_room (Nat.le_of_ble_eq_true rfl)) d_Model_steps_174 ⟨Nat.le_of_ble_eq_true rfl, Nat.le_of_ble_eq_true rfl⟩) hS (fun q _ h => hFc q h) hFc (fun r9 u9 t9 H locs ht hvm e9 hB hz1 hk1 hS => ?_)
    have e9 : r_12 = r9 := e9
    subst e9
    replace hP := x_keep hP hk1
    clear hFc hk1 hz1 hvm hB ht
    refine lv_if_ne (tgt := 196) hx hb d_Model_steps_177 (by decide) (fun c_13 => ?_) (fun c_13 => ?_)
    · replace hm := if_f c_13 hm
      refine lv_aload_n hx hb d_Model_steps_196 rfl (lv_at hl 1 rfl) ?_
      refine lv_bipush (v := 7) hx hb d_Model_steps_197 (by decide) ?_
      obtain ⟨i_15, j_16, a_17, b_18, r_19, h_14, hm⟩ := om_some hm
      have hFc := x_free hD hS hA
      refine va_calll (va_runV (As := [.int 7]) (rest := []) ⟨hx, hb, hml, hown, hts⟩ (x_Model_fails l dC dI cI cJ cB adK adV adA h v H.size n h_14) (cwV 1 hts (tw_GV tw_cons cw_Model_fails lk_Model_596 in_Model_fails sel_Model_fails ini_Model) rfl rfl rfl ⟨rfl, hd_Model_fails⟩ ⟨Nat.le_of_ble_eq_true rfl, Nat.le_of_ble_eq_true rfl⟩) (ypV hK hP hD hS hE hFc yo_12 rfl) rfl rfl hl.1 rfl (lv_room (Nat.le_of_ble_eq_true rfl)) d_Model_steps_199 ⟨Nat.le_of_ble_eq_true rfl, Nat.le_of_ble_eq_true rfl⟩) hS (fun q _ h => hFc q h) hFc (fun r9 u9 t9 H locs ht hvm e9 hB hz1 hk1 hS => ?_)
      have e9 : r_19 = r9 := e9
      subst e9
      obtain ⟨hP, hD⟩ := y_aft hB ht hFc
      clear hFc hk1 hz1 hvm hB ht
      obtain ⟨e1i, e1j, e1a, e1b, e3⟩ := re4m hm
      obtain ⟨hP, hD⟩ := y_eq e1i e1j e1a e1b hP hD
      exact W.lret hx hb hr (fun t9 ht hW => ⟨⟨_, (), rfl, e3.symm, by rw [ht]; exact hP, hD⟩, hS.F ht⟩) hS.2.2 d_Model_steps_202
    · replace hm := if_t c_13 hm
      refine lv_iload hx hb d_Model_steps_180 (lv_at hl 6 rfl) ?_
      obtain ⟨r_21, h_20, hm⟩ := ob0_some hm
      have hFc := x_free0 hS hA
      refine va_calli (va_runS (As := [.int v7]) (rest := []) ⟨hx, hb, hml, hown, hts⟩ (x_Model_isBeyond l H.size n h_20) (va_cwS 1 hts (tw_GS tw_cons cw_Model_isBeyond lk_Model_835 st_Model_isBeyond ini_Model) rfl rfl rfl hd_Model_isBeyond ⟨Nat.le_of_ble_eq_true rfl, Nat.le_of_ble_eq_true rfl⟩) xpS0 rfl rfl hl.1 rfl (lv_room (Nat.le_of_ble_eq_true rfl)) d_Model_steps_182 ⟨Nat.le_of_ble_eq_true rfl, Nat.le_of_ble_eq_true rfl⟩) hS (fun q _ h => hFc q h) hFc (fun r9 u9 t9 H locs ht hvm e9 hB hz1 hk1 hS => ?_)
      have e9 : r_21 = r9 := e9
      subst e9
      replace hP := x_keep hP hk1
      clear hFc hk1 hz1 hvm hB ht
      refine lv_if_ne (tgt := 196) hx hb d_Model_steps_185 (by decide) (fun c_22 => ?_) (fun c_22 => ?_)
      · replace hm := if_f c_22 hm
        refine lv_aload_n hx hb d_Model_steps_196 rfl (lv_at hl 1 rfl) ?_
        refine lv_bipush (v := 7) hx hb d_Model_steps_197 (by decide) ?_
        obtain ⟨i_24, j_25, a_26, b_27, r_28, h_23, hm⟩ := om_some hm
        have hFc := x_free hD hS hA
        refine va_calll (va_runV (As := [.int 7]) (rest := []) ⟨hx, hb, hml, hown, hts⟩ (x_Model_fails l dC dI cI cJ cB adK adV adA h v H.size n h_23) (cwV 1 hts (tw_GV tw_cons cw_Model_fails lk_Model_596 in_Model_fails sel_Model_fails ini_Model) rfl rfl rfl ⟨rfl, hd_Model_fails⟩ ⟨Nat.le_of_ble_eq_true rfl, Nat.le_of_ble_eq_true rfl⟩) (ypV hK hP hD hS hE hFc yo_12 rfl) rfl rfl hl.1 rfl (lv_room (Nat.le_of_ble_eq_true rfl)) d_Model_steps_199 ⟨Nat.le_of_ble_eq_true rfl, Nat.le_of_ble_eq_true rfl⟩) hS (fun q _ h => hFc q h) hFc (fun r9 u9 t9 H locs ht hvm e9 hB hz1 hk1 hS => ?_)
        have e9 : r_28 = r9 := e9
        subst e9
        obtain ⟨hP, hD⟩ := y_aft hB ht hFc
        clear hFc hk1 hz1 hvm hB ht
        obtain ⟨e1i, e1j, e1a, e1b, e3⟩ := re4m hm
        obtain ⟨hP, hD⟩ := y_eq e1i e1j e1a e1b hP hD
        exact W.lret hx hb hr (fun t9 ht hW => ⟨⟨_, (), rfl, e3.symm, by rw [ht]; exact hP, hD⟩, hS.F ht⟩) hS.2.2 d_Model_steps_202
      · replace hm := if_t c_22 hm
        refine lv_iload hx hb d_Model_steps_188 (lv_at hl 0 rfl) ?_
        obtain ⟨r_30, h_29, hm⟩ := ob0_some hm
        have hFc := x_free0 hS hA
        refine va_calli (va_runS (As := [.int x_1]) (rest := []) ⟨hx, hb, hml, hown, hts⟩ (x_Model_isBeyond l H.size n h_29) (va_cwS 1 hts (tw_GS tw_cons cw_Model_isBeyond lk_Model_835 st_Model_isBeyond ini_Model) rfl rfl rfl hd_Model_isBeyond ⟨Nat.le_of_ble_eq_true rfl, Nat.le_of_ble_eq_true rfl⟩) xpS0 rfl rfl hl.1 rfl (lv_room (Nat.le_of_ble_eq_true rfl)) d_Model_steps_190 ⟨Nat.le_of_ble_eq_true rfl, Nat.le_of_ble_eq_true rfl⟩) hS (fun q _ h => hFc q h) hFc (fun r9 u9 t9 H locs ht hvm e9 hB hz1 hk1 hS => ?_)
        have e9 : r_30 = r9 := e9
        subst e9
        replace hP := x_keep hP hk1
        clear hFc hk1 hz1 hvm hB ht
        refine lv_if_eq (tgt := 203) hx hb d_Model_steps_193 (by decide) (fun c_31 => ?_) (fun c_31 => ?_)
        · replace hm := if_t c_31 hm
          refine lv_iload_n hx hb d_Model_steps_203 rfl (lv_at hl 3 rfl) ?_
          refine lv_iconst (v := 2) hx hb d_Model_steps_204 (by decide) ?_
          refine lv_icmp_lt (tgt := 217) hx hb d_Model_steps_205 (by decide) (fun c_32 => ?_) (fun c_32 => ?_)
          · replace hm := if_t c_32 hm
            exact lb_Model_steps_217 l dC dI cI cJ cB adK adV adA h v n hx hb hml hown hts hK hE hA hr hlocks _ _ _ _ _ _ _ _ _ _ hm _ _ _ hP hD hS (lv_sub hl [1, 2, 3, 4, 5, 6, 0] rfl)
          · replace hm := if_f c_32 hm
            refine lv_iload_n hx hb d_Model_steps_208 rfl (lv_at hl 3 rfl) ?_
            refine lv_iconst (v := 4) hx hb d_Model_steps_209 (by decide) ?_
            refine lv_icmp_gt (tgt := 217) hx hb d_Model_steps_210 (by decide) (fun c_33 => ?_) (fun c_33 => ?_)
            · replace hm := if_t c_33 hm
              exact lb_Model_steps_217 l dC dI cI cJ cB adK adV adA h v n hx hb hml hown hts hK hE hA hr hlocks _ _ _ _ _ _ _ _ _ _ hm _ _ _ hP hD hS (lv_sub hl [1, 2, 3, 4, 5, 6, 0] rfl)
            · replace hm := if_f c_33 hm
              refine lv_iconst (v := 1) hx hb d_Model_steps_213 (by decide) ?_
              refine lv_goto (tgt := 218) hx hb d_Model_steps_214 (by decide) ?_
              exact lb_Model_steps_218 l dC dI cI cJ cB adK adV adA h v n hx hb hml hown hts hK hE hA hr hlocks _ _ _ _ _ _ _ _ _ _ _ hm _ _ _ hP hD hS (lv_sub hl [1, 2, 3, 4, 5, 6, 0] rfl)
        · replace hm := if_f c_31 hm
          refine lv_aload_n hx hb d_Model_steps_196 rfl (lv_at hl 1 rfl) ?_
          refine lv_bipush (v := 7) hx hb d_Model_steps_197 (by decide) ?_
          obtain ⟨i_35, j_36, a_37, b_38, r_39, h_34, hm⟩ := om_some hm
          have hFc := x_free hD hS hA
          refine va_calll (va_runV (As := [.int 7]) (rest := []) ⟨hx, hb, hml, hown, hts⟩ (x_Model_fails l dC dI cI cJ cB adK adV adA h v H.size n h_34) (cwV 1 hts (tw_GV tw_cons cw_Model_fails lk_Model_596 in_Model_fails sel_Model_fails ini_Model) rfl rfl rfl ⟨rfl, hd_Model_fails⟩ ⟨Nat.le_of_ble_eq_true rfl, Nat.le_of_ble_eq_true rfl⟩) (ypV hK hP hD hS hE hFc yo_12 rfl) rfl rfl hl.1 rfl (lv_room (Nat.le_of_ble_eq_true rfl)) d_Model_steps_199 ⟨Nat.le_of_ble_eq_true rfl, Nat.le_of_ble_eq_true rfl⟩) hS (fun q _ h => hFc q h) hFc (fun r9 u9 t9 H locs ht hvm e9 hB hz1 hk1 hS => ?_)
          have e9 : r_39 = r9 := e9
          subst e9
          obtain ⟨hP, hD⟩ := y_aft hB ht hFc
          clear hFc hk1 hz1 hvm hB ht
          obtain ⟨e1i, e1j, e1a, e1b, e3⟩ := re4m hm
          obtain ⟨hP, hD⟩ := y_eq e1i e1j e1a e1b hP hD
          exact W.lret hx hb hr (fun t9 ht hW => ⟨⟨_, (), rfl, e3.symm, by rw [ht]; exact hP, hD⟩, hS.F ht⟩) hS.2.2 d_Model_steps_202
def m_Model_steps_b130 (n : Nat) (i : Nat → Int32) (j : Nat → Int64) (a : Nat → Nat → Int32) (b : Nat → Nat → Int64) (v1 : Int32) (v3 : Int32) (v4 : Int32) (v5 : Int32) (v6 : Int32) (s0 : Int32) (s1 : Int32) : Option ((Nat → Int32) × (Nat → Int64) × (Nat → Nat → Int32) × (Nat → Nat → Int64) × Int64) := ob1 (s1 + s0 : Int32) (fun x_1 => ck v1 8 (if v3 = ((1 : Int32)) then m_Model_steps_b161 n i j a b v1 v3 v5 v6 x_1 v4 (a 40 v1.toNatClampNeg) else if v3 = ((5 : Int32)) then m_Model_steps_b161 n i j a b v1 v3 v5 v6 x_1 (-v4) (a 40 v1.toNatClampNeg) else m_Model_steps_b161 n i j a b v1 v3 v5 v6 x_1 (0 : Int32) (a 40 v1.toNatClampNeg)))
set_option maxHeartbeats 4000000 in
set_option maxRecDepth 100000 in
theorem lb_Model_steps_130 (l : Launch) (dC : Nat → ClassId) (dI : Nat → Nat → Nat) (cI cJ cB : ClassId) (adK adV adA : Nat → Nat) (h : Nat) (v : Nat → Nat) (n : Nat) {p : Program} {e : Env} {s : State} {m : MethodId} {args : Array Value} {below : List Frame} {meth : Method} {c : Code} {A : Nat → Prop} (hx : p.tables.exec = Jvm.exec) (hb : c.code = b_Model_steps) (hml : c.maxLocals = 10) (hown : s.vm.findClass R_Model = some m.cls) (hts : ∀ w ∈ w_Model_steps, w.before args s = true) (hK : va_K (dC, dI) classes [(cI, .int), (cJ, .long), (cB, .byte)] s) (hE : tw_E adK adV adA A s s.heap) (hA : ∀ q : Nat, s.heap.size ≤ q → A q) (hr : meth.sig.returnType = (some .long)) (hlocks : meth.locks = false) {i2 : Nat → Int32} {j2 : Nat → Int64} {a2 : Nat → Nat → Int32} {b2 : Nat → Nat → Int64} {r2 : Int64} (i : Nat → Int32) (j : Nat → Int64) (a : Nat → Nat → Int32) (b : Nat → Nat → Int64) (v1 : Int32) (v3 : Int32) (v4 : Int32) (v5 : Int32) (v6 : Int32) (s0 : Int32) (s1 : Int32) (hm : m_Model_steps_b130 n i j a b v1 v3 v4 v5 v6 s0 s1 = some (i2, j2, a2, b2, r2)) : ∀ (H : Heap) (locs : List Loc) (ls : Array Slot), va_P (dC, dI) classes (MW cI cJ cB h v i j a b) H → va_D A (MW cI cJ cB h v i j a b) → va_S A s.heap H locs → lv_has ls 10 [(0, .ref h), (1, .int v1), (3, .int v3), (4, .int v4), (5, .int v5), (6, .int v6)] → W p l e ({ frames := 3, cells := 0, slots := 0, locals := 102 } : Room) s m args below meth c H locs 0 0 (MQ below (va_Ql (xR r2) (yB dC dI cI cJ cB h v i2 j2 a2 b2 A) A) args s 0 0 A) (F0 m 130 ls [.int s0, .int s1]) := by
  have htt : ∀ w ∈ tw_T, w.before _ s = true := fun w h => hts w (List.mem_cons_of_mem _ h)
  intro H locs ls hP hD hS hl
  rw [m_Model_steps_b130] at hm
  refine lv_iadd hx hb d_Model_steps_130 ?_
  refine lv_topi (fun x_1 ex_1 => ?_)
  replace hm := ob1_at ex_1 hm
  refine lv_istore (lv' := [(7, .int x_1), (0, .ref h), (1, .int v1), (3, .int v3), (4, .int v4), (5, .int v5), (6, .int v6)]) hx hb d_Model_steps_131 hl (by decide) rfl (fun ls hl => ?_)
  refine lv_aload_n hx hb d_Model_steps_133 rfl (lv_at hl 1 rfl) ?_
  refine va_get (D := (dC, dI)) (ci := 12) (v := .ref ((v 40))) (C := R_Model) (T := F_Model) (N := 127) hx hb htt iw_Model hown hK hP 0 yo_12 rfl 40 (Nat.le_of_ble_eq_true rfl) (htt _ lk_Model_210) (fun _ h9 => h9) yg_40 d_Model_steps_134 ?_
  refine lv_iload_n hx hb d_Model_steps_137 rfl (lv_at hl 2 rfl) ?_
  obtain ⟨h_2, hm⟩ := ck_some hm
  refine va_iald hx hb hK hP 32 0 ya_40 rfl h_2 d_Model_steps_138 ?_
  refine lv_iload_n hx hb d_Model_steps_139 rfl (lv_at hl 3 rfl) ?_
  refine lv_iconst (v := 1) hx hb d_Model_steps_140 (by decide) ?_
  refine lv_icmp_ne (tgt := 149) hx hb d_Model_steps_141 (by decide) (fun c_3 => ?_) (fun c_3 => ?_)
  · replace hm := if_f c_3 hm
    refine lv_iload_n hx hb d_Model_steps_149 rfl (lv_at hl 3 rfl) ?_
    refine lv_iconst (v := 5) hx hb d_Model_steps_150 (by decide) ?_
    refine lv_icmp_ne (tgt := 160) hx hb d_Model_steps_151 (by decide) (fun c_4 => ?_) (fun c_4 => ?_)
    · replace hm := if_f c_4 hm
      refine lv_iconst (v := 0) hx hb d_Model_steps_160 (by decide) ?_
      exact lb_Model_steps_161 l dC dI cI cJ cB adK adV adA h v n hx hb hml hown hts hK hE hA hr hlocks _ _ _ _ _ _ _ _ _ _ _ hm _ _ _ hP hD hS (lv_sub hl [1, 2, 3, 5, 6, 0] rfl)
    · replace hm := if_t c_4 hm
      refine lv_iload hx hb d_Model_steps_154 (lv_at hl 4 rfl) ?_
      refine lv_ineg hx hb d_Model_steps_156 ?_
      refine lv_goto (tgt := 161) hx hb d_Model_steps_157 (by decide) ?_
      exact lb_Model_steps_161 l dC dI cI cJ cB adK adV adA h v n hx hb hml hown hts hK hE hA hr hlocks _ _ _ _ _ _ _ _ _ _ _ hm _ _ _ hP hD hS (lv_sub hl [1, 2, 3, 5, 6, 0] rfl)
  · replace hm := if_t c_3 hm
    refine lv_iload hx hb d_Model_steps_144 (lv_at hl 4 rfl) ?_
    refine lv_goto (tgt := 161) hx hb d_Model_steps_146 (by decide) ?_
    exact lb_Model_steps_161 l dC dI cI cJ cB adK adV adA h v n hx hb hml hown hts hK hE hA hr hlocks _ _ _ _ _ _ _ _ _ _ _ hm _ _ _ hP hD hS (lv_sub hl [1, 2, 3, 5, 6, 0] rfl)
def m_Model_steps_b88 (n : Nat) (i : Nat → Int32) (j : Nat → Int64) (a : Nat → Nat → Int32) (b : Nat → Nat → Int64) (v1 : Int32) (v3 : Int32) (v4 : Int32) (v5 : Int32) (s0 : Int32) (s1 : Int32) : Option ((Nat → Int32) × (Nat → Int64) × (Nat → Nat → Int32) × (Nat → Nat → Int64) × Int64) := ob1 (s1 + s0 : Int32) (fun x_1 => ck v1 8 (if v3 = ((0 : Int32)) then m_Model_steps_b130 n i j a b v1 v3 v4 v5 x_1 (2 * v4) (a 39 v1.toNatClampNeg) else if v3 = ((2 : Int32)) then m_Model_steps_b130 n i j a b v1 v3 v4 v5 x_1 v4 (a 39 v1.toNatClampNeg) else if v3 = ((4 : Int32)) then m_Model_steps_b130 n i j a b v1 v3 v4 v5 x_1 (-v4) (a 39 v1.toNatClampNeg) else m_Model_steps_b130 n i j a b v1 v3 v4 v5 x_1 (0 : Int32) (a 39 v1.toNatClampNeg)))
set_option maxHeartbeats 4000000 in
set_option maxRecDepth 100000 in
theorem lb_Model_steps_88 (l : Launch) (dC : Nat → ClassId) (dI : Nat → Nat → Nat) (cI cJ cB : ClassId) (adK adV adA : Nat → Nat) (h : Nat) (v : Nat → Nat) (n : Nat) {p : Program} {e : Env} {s : State} {m : MethodId} {args : Array Value} {below : List Frame} {meth : Method} {c : Code} {A : Nat → Prop} (hx : p.tables.exec = Jvm.exec) (hb : c.code = b_Model_steps) (hml : c.maxLocals = 10) (hown : s.vm.findClass R_Model = some m.cls) (hts : ∀ w ∈ w_Model_steps, w.before args s = true) (hK : va_K (dC, dI) classes [(cI, .int), (cJ, .long), (cB, .byte)] s) (hE : tw_E adK adV adA A s s.heap) (hA : ∀ q : Nat, s.heap.size ≤ q → A q) (hr : meth.sig.returnType = (some .long)) (hlocks : meth.locks = false) {i2 : Nat → Int32} {j2 : Nat → Int64} {a2 : Nat → Nat → Int32} {b2 : Nat → Nat → Int64} {r2 : Int64} (i : Nat → Int32) (j : Nat → Int64) (a : Nat → Nat → Int32) (b : Nat → Nat → Int64) (v1 : Int32) (v3 : Int32) (v4 : Int32) (v5 : Int32) (s0 : Int32) (s1 : Int32) (hm : m_Model_steps_b88 n i j a b v1 v3 v4 v5 s0 s1 = some (i2, j2, a2, b2, r2)) : ∀ (H : Heap) (locs : List Loc) (ls : Array Slot), va_P (dC, dI) classes (MW cI cJ cB h v i j a b) H → va_D A (MW cI cJ cB h v i j a b) → va_S A s.heap H locs → lv_has ls 10 [(0, .ref h), (1, .int v1), (3, .int v3), (4, .int v4), (5, .int v5)] → W p l e ({ frames := 3, cells := 0, slots := 0, locals := 102 } : Room) s m args below meth c H locs 0 0 (MQ below (va_Ql (xR r2) (yB dC dI cI cJ cB h v i2 j2 a2 b2 A) A) args s 0 0 A) (F0 m 88 ls [.int s0, .int s1]) := by
  have htt : ∀ w ∈ tw_T, w.before _ s = true := fun w h => hts w (List.mem_cons_of_mem _ h)
  intro H locs ls hP hD hS hl
  rw [m_Model_steps_b88] at hm
  refine lv_iadd hx hb d_Model_steps_88 ?_
  refine lv_topi (fun x_1 ex_1 => ?_)
  replace hm := ob1_at ex_1 hm
  refine lv_istore (lv' := [(6, .int x_1), (0, .ref h), (1, .int v1), (3, .int v3), (4, .int v4), (5, .int v5)]) hx hb d_Model_steps_89 hl (by decide) rfl (fun ls hl => ?_)
  refine lv_aload_n hx hb d_Model_steps_91 rfl (lv_at hl 1 rfl) ?_
  refine va_get (D := (dC, dI)) (ci := 12) (v := .ref ((v 39))) (C := R_Model) (T := F_Model) (N := 127) hx hb htt iw_Model hown hK hP 0 yo_12 rfl 39 (Nat.le_of_ble_eq_true rfl) (htt _ lk_Model_207) (fun _ h9 => h9) yg_39 d_Model_steps_92 ?_
  refine lv_iload_n hx hb d_Model_steps_95 rfl (lv_at hl 2 rfl) ?_
  obtain ⟨h_2, hm⟩ := ck_some hm
  refine va_iald hx hb hK hP 31 0 ya_39 rfl h_2 d_Model_steps_96 ?_
  refine lv_iload_n hx hb d_Model_steps_97 rfl (lv_at hl 3 rfl) ?_
  refine lv_if_ne (tgt := 108) hx hb d_Model_steps_98 (by decide) (fun c_3 => ?_) (fun c_3 => ?_)
  · replace hm := if_f c_3 hm
    refine lv_iload_n hx hb d_Model_steps_108 rfl (lv_at hl 3 rfl) ?_
    refine lv_iconst (v := 2) hx hb d_Model_steps_109 (by decide) ?_
    refine lv_icmp_ne (tgt := 118) hx hb d_Model_steps_110 (by decide) (fun c_4 => ?_) (fun c_4 => ?_)
    · replace hm := if_f c_4 hm
      refine lv_iload_n hx hb d_Model_steps_118 rfl (lv_at hl 3 rfl) ?_
      refine lv_iconst (v := 4) hx hb d_Model_steps_119 (by decide) ?_
      refine lv_icmp_ne (tgt := 129) hx hb d_Model_steps_120 (by decide) (fun c_5 => ?_) (fun c_5 => ?_)
      · replace hm := if_f c_5 hm
        refine lv_iconst (v := 0) hx hb d_Model_steps_129 (by decide) ?_
        exact lb_Model_steps_130 l dC dI cI cJ cB adK adV adA h v n hx hb hml hown hts hK hE hA hr hlocks _ _ _ _ _ _ _ _ _ _ _ hm _ _ _ hP hD hS (lv_sub hl [1, 2, 3, 4, 5, 0] rfl)
      · replace hm := if_t c_5 hm
        refine lv_iload hx hb d_Model_steps_123 (lv_at hl 4 rfl) ?_
        refine lv_ineg hx hb d_Model_steps_125 ?_
        refine lv_goto (tgt := 130) hx hb d_Model_steps_126 (by decide) ?_
        exact lb_Model_steps_130 l dC dI cI cJ cB adK adV adA h v n hx hb hml hown hts hK hE hA hr hlocks _ _ _ _ _ _ _ _ _ _ _ hm _ _ _ hP hD hS (lv_sub hl [1, 2, 3, 4, 5, 0] rfl)
    · replace hm := if_t c_4 hm
      refine lv_iload hx hb d_Model_steps_113 (lv_at hl 4 rfl) ?_
      refine lv_goto (tgt := 130) hx hb d_Model_steps_115 (by decide) ?_
      exact lb_Model_steps_130 l dC dI cI cJ cB adK adV adA h v n hx hb hml hown hts hK hE hA hr hlocks _ _ _ _ _ _ _ _ _ _ _ hm _ _ _ hP hD hS (lv_sub hl [1, 2, 3, 4, 5, 0] rfl)
  · replace hm := if_t c_3 hm
    refine lv_iconst (v := 2) hx hb d_Model_steps_101 (by decide) ?_
    refine lv_iload hx hb d_Model_steps_102 (lv_at hl 4 rfl) ?_
    refine lv_imul hx hb d_Model_steps_104 ?_
    refine lv_goto (tgt := 130) hx hb d_Model_steps_105 (by decide) ?_
    exact lb_Model_steps_130 l dC dI cI cJ cB adK adV adA h v n hx hb hml hown hts hK hE hA hr hlocks _ _ _ _ _ _ _ _ _ _ _ hm _ _ _ hP hD hS (lv_sub hl [1, 2, 3, 4, 5, 0] rfl)
def m_Model_steps_b82 (n : Nat) (i : Nat → Int32) (j : Nat → Int64) (a : Nat → Nat → Int32) (b : Nat → Nat → Int64) (v1 : Int32) (v3 : Int32) (v4 : Int32) (v5 : Int32) (s0 : Int32) : Option ((Nat → Int32) × (Nat → Int64) × (Nat → Nat → Int32) × (Nat → Nat → Int64) × Int64) := m_Model_steps_b88 n i j a b v1 v3 v4 v5 v4 s0
set_option maxHeartbeats 4000000 in
set_option maxRecDepth 100000 in
theorem lb_Model_steps_82 (l : Launch) (dC : Nat → ClassId) (dI : Nat → Nat → Nat) (cI cJ cB : ClassId) (adK adV adA : Nat → Nat) (h : Nat) (v : Nat → Nat) (n : Nat) {p : Program} {e : Env} {s : State} {m : MethodId} {args : Array Value} {below : List Frame} {meth : Method} {c : Code} {A : Nat → Prop} (hx : p.tables.exec = Jvm.exec) (hb : c.code = b_Model_steps) (hml : c.maxLocals = 10) (hown : s.vm.findClass R_Model = some m.cls) (hts : ∀ w ∈ w_Model_steps, w.before args s = true) (hK : va_K (dC, dI) classes [(cI, .int), (cJ, .long), (cB, .byte)] s) (hE : tw_E adK adV adA A s s.heap) (hA : ∀ q : Nat, s.heap.size ≤ q → A q) (hr : meth.sig.returnType = (some .long)) (hlocks : meth.locks = false) {i2 : Nat → Int32} {j2 : Nat → Int64} {a2 : Nat → Nat → Int32} {b2 : Nat → Nat → Int64} {r2 : Int64} (i : Nat → Int32) (j : Nat → Int64) (a : Nat → Nat → Int32) (b : Nat → Nat → Int64) (v1 : Int32) (v3 : Int32) (v4 : Int32) (v5 : Int32) (s0 : Int32) (hm : m_Model_steps_b82 n i j a b v1 v3 v4 v5 s0 = some (i2, j2, a2, b2, r2)) : ∀ (H : Heap) (locs : List Loc) (ls : Array Slot), va_P (dC, dI) classes (MW cI cJ cB h v i j a b) H → va_D A (MW cI cJ cB h v i j a b) → va_S A s.heap H locs → lv_has ls 10 [(0, .ref h), (1, .int v1), (3, .int v3), (4, .int v4), (5, .int v5)] → W p l e ({ frames := 3, cells := 0, slots := 0, locals := 102 } : Room) s m args below meth c H locs 0 0 (MQ below (va_Ql (xR r2) (yB dC dI cI cJ cB h v i2 j2 a2 b2 A) A) args s 0 0 A) (F0 m 82 ls [.int s0]) := by
  have htt : ∀ w ∈ tw_T, w.before _ s = true := fun w h => hts w (List.mem_cons_of_mem _ h)
  intro H locs ls hP hD hS hl
  rw [m_Model_steps_b82] at hm
  refine lv_iload hx hb d_Model_steps_82 (lv_at hl 3 rfl) ?_
  refine lv_goto (tgt := 88) hx hb d_Model_steps_84 (by decide) ?_
  exact lb_Model_steps_88 l dC dI cI cJ cB adK adV adA h v n hx hb hml hown hts hK hE hA hr hlocks _ _ _ _ _ _ _ _ _ _ hm _ _ _ hP hD hS (lv_sub hl [0, 1, 2, 3, 4] rfl)
def m_Model_steps_b63 (n : Nat) (i : Nat → Int32) (j : Nat → Int64) (a : Nat → Nat → Int32) (b : Nat → Nat → Int64) (v1 : Int32) (v3 : Int32) (v4 : Int32) (s0 : Int32) (s1 : Int32) : Option ((Nat → Int32) × (Nat → Int64) × (Nat → Nat → Int32) × (Nat → Nat → Int64) × Int64) := ob1 (s1 + s0 : Int32) (fun x_1 => ck v1 8 (if v3 = ((2 : Int32)) then m_Model_steps_b82 n i j a b v1 v3 v4 x_1 (a 38 v1.toNatClampNeg) else if v3 = ((4 : Int32)) then m_Model_steps_b82 n i j a b v1 v3 v4 x_1 (a 38 v1.toNatClampNeg) else m_Model_steps_b88 n i j a b v1 v3 v4 x_1 (0 : Int32) (a 38 v1.toNatClampNeg)))
set_option maxHeartbeats 4000000 in
set_option maxRecDepth 100000 in
theorem lb_Model_steps_63 (l : Launch) (dC : Nat → ClassId) (dI : Nat → Nat → Nat) (cI cJ cB : ClassId) (adK adV adA : Nat → Nat) (h : Nat) (v : Nat → Nat) (n : Nat) {p : Program} {e : Env} {s : State} {m : MethodId} {args : Array Value} {below : List Frame} {meth : Method} {c : Code} {A : Nat → Prop} (hx : p.tables.exec = Jvm.exec) (hb : c.code = b_Model_steps) (hml : c.maxLocals = 10) (hown : s.vm.findClass R_Model = some m.cls) (hts : ∀ w ∈ w_Model_steps, w.before args s = true) (hK : va_K (dC, dI) classes [(cI, .int), (cJ, .long), (cB, .byte)] s) (hE : tw_E adK adV adA A s s.heap) (hA : ∀ q : Nat, s.heap.size ≤ q → A q) (hr : meth.sig.returnType = (some .long)) (hlocks : meth.locks = false) {i2 : Nat → Int32} {j2 : Nat → Int64} {a2 : Nat → Nat → Int32} {b2 : Nat → Nat → Int64} {r2 : Int64} (i : Nat → Int32) (j : Nat → Int64) (a : Nat → Nat → Int32) (b : Nat → Nat → Int64) (v1 : Int32) (v3 : Int32) (v4 : Int32) (s0 : Int32) (s1 : Int32) (hm : m_Model_steps_b63 n i j a b v1 v3 v4 s0 s1 = some (i2, j2, a2, b2, r2)) : ∀ (H : Heap) (locs : List Loc) (ls : Array Slot), va_P (dC, dI) classes (MW cI cJ cB h v i j a b) H → va_D A (MW cI cJ cB h v i j a b) → va_S A s.heap H locs → lv_has ls 10 [(0, .ref h), (1, .int v1), (3, .int v3), (4, .int v4)] → W p l e ({ frames := 3, cells := 0, slots := 0, locals := 102 } : Room) s m args below meth c H locs 0 0 (MQ below (va_Ql (xR r2) (yB dC dI cI cJ cB h v i2 j2 a2 b2 A) A) args s 0 0 A) (F0 m 63 ls [.int s0, .int s1]) := by
  have htt : ∀ w ∈ tw_T, w.before _ s = true := fun w h => hts w (List.mem_cons_of_mem _ h)
  intro H locs ls hP hD hS hl
  rw [m_Model_steps_b63] at hm
  refine lv_iadd hx hb d_Model_steps_63 ?_
  refine lv_topi (fun x_1 ex_1 => ?_)
  replace hm := ob1_at ex_1 hm
  refine lv_istore (lv' := [(5, .int x_1), (0, .ref h), (1, .int v1), (3, .int v3), (4, .int v4)]) hx hb d_Model_steps_64 hl (by decide) rfl (fun ls hl => ?_)
  refine lv_aload_n hx hb d_Model_steps_66 rfl (lv_at hl 1 rfl) ?_
  refine va_get (D := (dC, dI)) (ci := 12) (v := .ref ((v 38))) (C := R_Model) (T := F_Model) (N := 127) hx hb htt iw_Model hown hK hP 0 yo_12 rfl 38 (Nat.le_of_ble_eq_true rfl) (htt _ lk_Model_204) (fun _ h9 => h9) yg_38 d_Model_steps_67 ?_
  refine lv_iload_n hx hb d_Model_steps_70 rfl (lv_at hl 2 rfl) ?_
  obtain ⟨h_2, hm⟩ := ck_some hm
  refine va_iald hx hb hK hP 30 0 ya_38 rfl h_2 d_Model_steps_71 ?_
  refine lv_iload_n hx hb d_Model_steps_72 rfl (lv_at hl 3 rfl) ?_
  refine lv_iconst (v := 2) hx hb d_Model_steps_73 (by decide) ?_
  refine lv_icmp_eq (tgt := 82) hx hb d_Model_steps_74 (by decide) (fun c_3 => ?_) (fun c_3 => ?_)
  · replace hm := if_t c_3 hm
    exact lb_Model_steps_82 l dC dI cI cJ cB adK adV adA h v n hx hb hml hown hts hK hE hA hr hlocks _ _ _ _ _ _ _ _ _ hm _ _ _ hP hD hS (lv_sub hl [1, 2, 3, 4, 0] rfl)
  · replace hm := if_f c_3 hm
    refine lv_iload_n hx hb d_Model_steps_77 rfl (lv_at hl 3 rfl) ?_
    refine lv_iconst (v := 4) hx hb d_Model_steps_78 (by decide) ?_
    refine lv_icmp_ne (tgt := 87) hx hb d_Model_steps_79 (by decide) (fun c_4 => ?_) (fun c_4 => ?_)
    · replace hm := if_f c_4 hm
      refine lv_iconst (v := 0) hx hb d_Model_steps_87 (by decide) ?_
      exact lb_Model_steps_88 l dC dI cI cJ cB adK adV adA h v n hx hb hml hown hts hK hE hA hr hlocks _ _ _ _ _ _ _ _ _ _ hm _ _ _ hP hD hS (lv_sub hl [1, 2, 3, 4, 0] rfl)
    · replace hm := if_t c_4 hm
      exact lb_Model_steps_82 l dC dI cI cJ cB adK adV adA h v n hx hb hml hown hts hK hE hA hr hlocks _ _ _ _ _ _ _ _ _ hm _ _ _ hP hD hS (lv_sub hl [1, 2, 3, 4, 0] rfl)
def m_Model_steps_b45 (n : Nat) (i : Nat → Int32) (j : Nat → Int64) (a : Nat → Nat → Int32) (b : Nat → Nat → Int64) (v1 : Int32) (v3 : Int32) (v4 : Int32) (s0 : Int32) : Option ((Nat → Int32) × (Nat → Int64) × (Nat → Nat → Int32) × (Nat → Nat → Int64) × Int64) := m_Model_steps_b63 n i j a b v1 v3 v4 v4 s0
set_option maxHeartbeats 4000000 in
set_option maxRecDepth 100000 in
theorem lb_Model_steps_45 (l : Launch) (dC : Nat → ClassId) (dI : Nat → Nat → Nat) (cI cJ cB : ClassId) (adK adV adA : Nat → Nat) (h : Nat) (v : Nat → Nat) (n : Nat) {p : Program} {e : Env} {s : State} {m : MethodId} {args : Array Value} {below : List Frame} {meth : Method} {c : Code} {A : Nat → Prop} (hx : p.tables.exec = Jvm.exec) (hb : c.code = b_Model_steps) (hml : c.maxLocals = 10) (hown : s.vm.findClass R_Model = some m.cls) (hts : ∀ w ∈ w_Model_steps, w.before args s = true) (hK : va_K (dC, dI) classes [(cI, .int), (cJ, .long), (cB, .byte)] s) (hE : tw_E adK adV adA A s s.heap) (hA : ∀ q : Nat, s.heap.size ≤ q → A q) (hr : meth.sig.returnType = (some .long)) (hlocks : meth.locks = false) {i2 : Nat → Int32} {j2 : Nat → Int64} {a2 : Nat → Nat → Int32} {b2 : Nat → Nat → Int64} {r2 : Int64} (i : Nat → Int32) (j : Nat → Int64) (a : Nat → Nat → Int32) (b : Nat → Nat → Int64) (v1 : Int32) (v3 : Int32) (v4 : Int32) (s0 : Int32) (hm : m_Model_steps_b45 n i j a b v1 v3 v4 s0 = some (i2, j2, a2, b2, r2)) : ∀ (H : Heap) (locs : List Loc) (ls : Array Slot), va_P (dC, dI) classes (MW cI cJ cB h v i j a b) H → va_D A (MW cI cJ cB h v i j a b) → va_S A s.heap H locs → lv_has ls 10 [(0, .ref h), (1, .int v1), (3, .int v3), (4, .int v4)] → W p l e ({ frames := 3, cells := 0, slots := 0, locals := 102 } : Room) s m args below meth c H locs 0 0 (MQ below (va_Ql (xR r2) (yB dC dI cI cJ cB h v i2 j2 a2 b2 A) A) args s 0 0 A) (F0 m 45 ls [.int s0]) := by
  have htt : ∀ w ∈ tw_T, w.before _ s = true := fun w h => hts w (List.mem_cons_of_mem _ h)
  intro H locs ls hP hD hS hl
  rw [m_Model_steps_b45] at hm
  refine lv_iload hx hb d_Model_steps_45 (lv_at hl 3 rfl) ?_
  refine lv_goto (tgt := 63) hx hb d_Model_steps_47 (by decide) ?_
  exact lb_Model_steps_63 l dC dI cI cJ cB adK adV adA h v n hx hb hml hown hts hK hE hA hr hlocks _ _ _ _ _ _ _ _ _ hm _ _ _ hP hD hS (lv_sub hl [0, 1, 2, 3] rfl)
def m_Model_steps_b27 (n : Nat) (i : Nat → Int32) (j : Nat → Int64) (a : Nat → Nat → Int32) (b : Nat → Nat → Int64) (v1 : Int32) (v3 : Int32) (s0 : Int32) : Option ((Nat → Int32) × (Nat → Int64) × (Nat → Nat → Int32) × (Nat → Nat → Int64) × Int64) := ck v1 8 (if v3 = ((1 : Int32)) then m_Model_steps_b45 n i j a b v1 v3 s0 (a 37 v1.toNatClampNeg) else if v3 = ((5 : Int32)) then m_Model_steps_b45 n i j a b v1 v3 s0 (a 37 v1.toNatClampNeg) else if v3 = ((3 : Int32)) then m_Model_steps_b63 n i j a b v1 v3 s0 (2 * s0) (a 37 v1.toNatClampNeg) else m_Model_steps_b63 n i j a b v1 v3 s0 (0 : Int32) (a 37 v1.toNatClampNeg))
set_option maxHeartbeats 4000000 in
set_option maxRecDepth 100000 in
theorem lb_Model_steps_27 (l : Launch) (dC : Nat → ClassId) (dI : Nat → Nat → Nat) (cI cJ cB : ClassId) (adK adV adA : Nat → Nat) (h : Nat) (v : Nat → Nat) (n : Nat) {p : Program} {e : Env} {s : State} {m : MethodId} {args : Array Value} {below : List Frame} {meth : Method} {c : Code} {A : Nat → Prop} (hx : p.tables.exec = Jvm.exec) (hb : c.code = b_Model_steps) (hml : c.maxLocals = 10) (hown : s.vm.findClass R_Model = some m.cls) (hts : ∀ w ∈ w_Model_steps, w.before args s = true) (hK : va_K (dC, dI) classes [(cI, .int), (cJ, .long), (cB, .byte)] s) (hE : tw_E adK adV adA A s s.heap) (hA : ∀ q : Nat, s.heap.size ≤ q → A q) (hr : meth.sig.returnType = (some .long)) (hlocks : meth.locks = false) {i2 : Nat → Int32} {j2 : Nat → Int64} {a2 : Nat → Nat → Int32} {b2 : Nat → Nat → Int64} {r2 : Int64} (i : Nat → Int32) (j : Nat → Int64) (a : Nat → Nat → Int32) (b : Nat → Nat → Int64) (v1 : Int32) (v3 : Int32) (s0 : Int32) (hm : m_Model_steps_b27 n i j a b v1 v3 s0 = some (i2, j2, a2, b2, r2)) : ∀ (H : Heap) (locs : List Loc) (ls : Array Slot), va_P (dC, dI) classes (MW cI cJ cB h v i j a b) H → va_D A (MW cI cJ cB h v i j a b) → va_S A s.heap H locs → lv_has ls 10 [(0, .ref h), (1, .int v1), (3, .int v3)] → W p l e ({ frames := 3, cells := 0, slots := 0, locals := 102 } : Room) s m args below meth c H locs 0 0 (MQ below (va_Ql (xR r2) (yB dC dI cI cJ cB h v i2 j2 a2 b2 A) A) args s 0 0 A) (F0 m 27 ls [.int s0]) := by
  have htt : ∀ w ∈ tw_T, w.before _ s = true := fun w h => hts w (List.mem_cons_of_mem _ h)
  intro H locs ls hP hD hS hl
  rw [m_Model_steps_b27] at hm
  refine lv_istore (lv' := [(4, .int s0), (0, .ref h), (1, .int v1), (3, .int v3)]) hx hb d_Model_steps_27 hl (by decide) rfl (fun ls hl => ?_)
  refine lv_aload_n hx hb d_Model_steps_29 rfl (lv_at hl 1 rfl) ?_
  refine va_get (D := (dC, dI)) (ci := 12) (v := .ref ((v 37))) (C := R_Model) (T := F_Model) (N := 127) hx hb htt iw_Model hown hK hP 0 yo_12 rfl 37 (Nat.le_of_ble_eq_true rfl) (htt _ lk_Model_201) (fun _ h9 => h9) yg_37 d_Model_steps_30 ?_
  refine lv_iload_n hx hb d_Model_steps_33 rfl (lv_at hl 2 rfl) ?_
  obtain ⟨h_1, hm⟩ := ck_some hm
  refine va_iald hx hb hK hP 29 0 ya_37 rfl h_1 d_Model_steps_34 ?_
  refine lv_iload_n hx hb d_Model_steps_35 rfl (lv_at hl 3 rfl) ?_
  refine lv_iconst (v := 1) hx hb d_Model_steps_36 (by decide) ?_
  refine lv_icmp_eq (tgt := 45) hx hb d_Model_steps_37 (by decide) (fun c_2 => ?_) (fun c_2 => ?_)
  · replace hm := if_t c_2 hm
    exact lb_Model_steps_45 l dC dI cI cJ cB adK adV adA h v n hx hb hml hown hts hK hE hA hr hlocks _ _ _ _ _ _ _ _ hm _ _ _ hP hD hS (lv_sub hl [1, 2, 3, 0] rfl)
  · replace hm := if_f c_2 hm
    refine lv_iload_n hx hb d_Model_steps_40 rfl (lv_at hl 3 rfl) ?_
    refine lv_iconst (v := 5) hx hb d_Model_steps_41 (by decide) ?_
    refine lv_icmp_ne (tgt := 50) hx hb d_Model_steps_42 (by decide) (fun c_3 => ?_) (fun c_3 => ?_)
    · replace hm := if_f c_3 hm
      refine lv_iload_n hx hb d_Model_steps_50 rfl (lv_at hl 3 rfl) ?_
      refine lv_iconst (v := 3) hx hb d_Model_steps_51 (by decide) ?_
      refine lv_icmp_ne (tgt := 62) hx hb d_Model_steps_52 (by decide) (fun c_4 => ?_) (fun c_4 => ?_)
      · replace hm := if_f c_4 hm
        refine lv_iconst (v := 0) hx hb d_Model_steps_62 (by decide) ?_
        exact lb_Model_steps_63 l dC dI cI cJ cB adK adV adA h v n hx hb hml hown hts hK hE hA hr hlocks _ _ _ _ _ _ _ _ _ hm _ _ _ hP hD hS (lv_sub hl [1, 2, 3, 0] rfl)
      · replace hm := if_t c_4 hm
        refine lv_iconst (v := 2) hx hb d_Model_steps_55 (by decide) ?_
        refine lv_iload hx hb d_Model_steps_56 (lv_at hl 0 rfl) ?_
        refine lv_imul hx hb d_Model_steps_58 ?_
        refine lv_goto (tgt := 63) hx hb d_Model_steps_59 (by decide) ?_
        exact lb_Model_steps_63 l dC dI cI cJ cB adK adV adA h v n hx hb hml hown hts hK hE hA hr hlocks _ _ _ _ _ _ _ _ _ hm _ _ _ hP hD hS (lv_sub hl [1, 2, 3, 0] rfl)
    · replace hm := if_t c_3 hm
      exact lb_Model_steps_45 l dC dI cI cJ cB adK adV adA h v n hx hb hml hown hts hK hE hA hr hlocks _ _ _ _ _ _ _ _ hm _ _ _ hP hD hS (lv_sub hl [1, 2, 3, 0] rfl)
def m_Model_steps (n : Nat) (i : Nat → Int32) (j : Nat → Int64) (a : Nat → Nat → Int32) (b : Nat → Nat → Int64) (v1 : Int32) (v2 : Int32) : Option ((Nat → Int32) × (Nat → Int64) × (Nat → Nat → Int32) × (Nat → Nat → Int64) × Int64) := ck v1 8 (ob1 ((a 41 v1.toNatClampNeg) - (a 41 v1.toNatClampNeg) / 6 * 6 : Int32) (fun x_2 => ck v1 8 (if ((6 : Int32)) ≤ ((a 41 v1.toNatClampNeg)) then m_Model_steps_b27 n i j a b v1 x_2 (-v2) else m_Model_steps_b27 n i j a b v1 x_2 v2)))
set_option maxHeartbeats 4000000 in
set_option maxRecDepth 100000 in
theorem x_Model_steps (l : Launch) (dC : Nat → ClassId) (dI : Nat → Nat → Nat) (cI cJ cB : ClassId) (adK adV adA : Nat → Nat) (h : Nat) (v : Nat → Nat) (sz : Nat) (n : Nat) {i : Nat → Int32} {j : Nat → Int64} {a : Nat → Nat → Int32} {b : Nat → Nat → Int64} {v1 : Int32} {v2 : Int32} {i2 : Nat → Int32} {j2 : Nat → Int64} {a2 : Nat → Nat → Int32} {b2 : Nat → Nat → Int64} {r2 : Int64} (hm : m_Model_steps n i j a b v1 v2 = some (i2, j2, a2, b2, r2)) : Met l y_Model_steps w_Model_steps ({ frames := 3, cells := 0, slots := 0, locals := 102 } : Room) (va_Pc [.ref h, .int v1, .int v2] (yE dC dI cI cJ cB adK adV adA h v i j a b sz)) (va_Ql (xR r2) (yB dC dI cI cJ cB h v i2 j2 a2 b2 (va_A (MW cI cJ cB h v i j a b) sz)) (va_A (MW cI cJ cB h v i j a b) sz)) 0 0 ((va_A (MW cI cJ cB h v i j a b) sz)) := by
  refine Met.ofW (cc := b_Model_steps) (maxL := 10) (ret := (some .long)) (by decide) rfl ?_
  intro p e s m args below meth c s₁ B hml hv
  obtain ⟨rfl, hsz, hP, hK, hE, hD0⟩ := hv
  have hx := B.exec
  have hb := B.bytes
  have hr := B.returns
  have hts := atoms_spec (ws := w_Model_steps) B.pre
  have htt : ∀ w ∈ tw_T, w.before _ s = true := fun w h => hts w (List.mem_cons_of_mem _ h)
  have hown : s.vm.findClass R_Model = some m.cls := findClass_of_methodNamed B.named
  have hlocks := B.notSynchronized
  subst hsz
  have hD := hD0.self (sz := s.heap.size)
  generalize hAe : (va_A (MW cI cJ cB h v i j a b) s.heap.size) = A at hD hE ⊢
  have hA : ∀ q : Nat, s.heap.size ≤ q → A q := fun q h => by rw [← hAe]; exact Or.inr h
  have hS : va_S A s.heap s.heap [] := va_S.rf
  have hl := lv_entry ([.ref h, .int v1, .int v2]) (n := 10) (Nat.le_of_ble_eq_true rfl)
  rw [lg_entry_eq]
  generalize (lg_sl ([.ref h, .int v1, .int v2]) ++ List.replicate (10 - (lg_sl ([.ref h, .int v1, .int v2])).length) Slot.unset).toArray = ls at hl ⊢
  have hl : lv_has ls 10 [(0, .ref h), (1, .int v1), (2, .int v2)] := hl
  rw [m_Model_steps] at hm
  refine lv_aload_n hx hb d_Model_steps_0 rfl (lv_at hl 0 rfl) ?_
  refine va_get (D := (dC, dI)) (ci := 12) (v := .ref ((v 41))) (C := R_Model) (T := F_Model) (N := 127) hx hb htt iw_Model hown hK hP 0 yo_12 rfl 41 (Nat.le_of_ble_eq_true rfl) (htt _ lk_Model_213) (fun _ h9 => h9) yg_41 d_Model_steps_1 ?_
  refine lv_iload_n hx hb d_Model_steps_4 rfl (lv_at hl 1 rfl) ?_
  obtain ⟨h_1, hm⟩ := ck_some hm
  refine va_iald hx hb hK hP 33 0 ya_41 rfl h_1 d_Model_steps_5 ?_
  refine lv_bipush (v := 6) hx hb d_Model_steps_6 (by decide) ?_
  refine lv_irem hx hb d_Model_steps_8 (by decide) ?_
  refine lv_topi (fun x_2 ex_2 => ?_)
  replace hm := ob1_at ex_2 hm
  refine lv_istore_n (lv' := [(3, .int x_2), (0, .ref h), (1, .int v1), (2, .int v2)]) hx hb d_Model_steps_9 rfl hl (by decide) rfl (fun ls hl => ?_)
  refine lv_aload_n hx hb d_Model_steps_10 rfl (lv_at hl 1 rfl) ?_
  refine va_get (D := (dC, dI)) (ci := 12) (v := .ref ((v 41))) (C := R_Model) (T := F_Model) (N := 127) hx hb htt iw_Model hown hK hP 0 yo_12 rfl 41 (Nat.le_of_ble_eq_true rfl) (htt _ lk_Model_213) (fun _ h9 => h9) yg_41 d_Model_steps_11 ?_
  refine lv_iload_n hx hb d_Model_steps_14 rfl (lv_at hl 2 rfl) ?_
  obtain ⟨h_3, hm⟩ := ck_some hm
  refine va_iald hx hb hK hP 33 0 ya_41 rfl h_3 d_Model_steps_15 ?_
  refine lv_bipush (v := 6) hx hb d_Model_steps_16 (by decide) ?_
  refine lv_icmp_ge (tgt := 25) hx hb d_Model_steps_18 (by decide) (fun c_4 => ?_) (fun c_4 => ?_)
  · replace hm := if_t c_4 hm
    refine lv_iload_n hx hb d_Model_steps_25 rfl (lv_at hl 3 rfl) ?_
    refine lv_ineg hx hb d_Model_steps_26 ?_
    exact lb_Model_steps_27 l dC dI cI cJ cB adK adV adA h v n hx hb hml hown hts hK hE hA hr hlocks _ _ _ _ _ _ _ hm _ _ _ hP hD hS (lv_sub hl [1, 2, 0] rfl)
  · replace hm := if_f c_4 hm
    refine lv_iload_n hx hb d_Model_steps_21 rfl (lv_at hl 3 rfl) ?_
    refine lv_goto (tgt := 27) hx hb d_Model_steps_22 (by decide) ?_
    exact lb_Model_steps_27 l dC dI cI cJ cB adK adV adA h v n hx hb hml hown hts hK hE hA hr hlocks _ _ _ _ _ _ _ hm _ _ _ hP hD hS (lv_sub hl [1, 2, 0] rfl)
