theorem d_Model_isText_0 : decode b_Model_isText 0 = .ok (.aload_n 0, 1) := by decide +kernel
theorem d_Model_isText_1 : decode b_Model_isText 1 = .ok (.getfield 22, 3) := by decide +kernel
theorem d_Model_isText_4 : decode b_Model_isText 4 = .ok (.iload_n 1, 1) := by decide +kernel
theorem d_Model_isText_5 : decode b_Model_isText 5 = .ok (.iaload, 1) := by decide +kernel
theorem d_Model_isText_6 : decode b_Model_isText 6 = .ok (.aload_n 2, 1) := by decide +kernel
theorem d_Model_isText_7 : decode b_Model_isText 7 = .ok (.invokevirtual 75, 3) := by decide +kernel
theorem d_Model_isText_10 : decode b_Model_isText 10 = .ok (.if_icmp .eq 5, 3) := by decide +kernel
theorem d_Model_isText_13 : decode b_Model_isText 13 = .ok (.iconst 0, 1) := by decide +kernel
theorem d_Model_isText_14 : decode b_Model_isText 14 = .ok (.ireturn, 1) := by decide +kernel
theorem d_Model_isText_15 : decode b_Model_isText 15 = .ok (.iconst 0, 1) := by decide +kernel
theorem d_Model_isText_16 : decode b_Model_isText 16 = .ok (.istore_n 3, 1) := by decide +kernel
theorem d_Model_isText_17 : decode b_Model_isText 17 = .ok (.iload_n 3, 1) := by decide +kernel
theorem d_Model_isText_18 : decode b_Model_isText 18 = .ok (.aload_n 2, 1) := by decide +kernel
theorem d_Model_isText_19 : decode b_Model_isText 19 = .ok (.invokevirtual 75, 3) := by decide +kernel
theorem d_Model_isText_22 : decode b_Model_isText 22 = .ok (.if_icmp .ge 32, 3) := by decide +kernel
theorem d_Model_isText_25 : decode b_Model_isText 25 = .ok (.aload_n 0, 1) := by decide +kernel
theorem d_Model_isText_26 : decode b_Model_isText 26 = .ok (.getfield 67, 3) := by decide +kernel
theorem d_Model_isText_29 : decode b_Model_isText 29 = .ok (.aload_n 0, 1) := by decide +kernel
theorem d_Model_isText_30 : decode b_Model_isText 30 = .ok (.getfield 15, 3) := by decide +kernel
theorem d_Model_isText_33 : decode b_Model_isText 33 = .ok (.iload_n 1, 1) := by decide +kernel
theorem d_Model_isText_34 : decode b_Model_isText 34 = .ok (.iaload, 1) := by decide +kernel
theorem d_Model_isText_35 : decode b_Model_isText 35 = .ok (.iload_n 3, 1) := by decide +kernel
theorem d_Model_isText_36 : decode b_Model_isText 36 = .ok (.iadd, 1) := by decide +kernel
theorem d_Model_isText_37 : decode b_Model_isText 37 = .ok (.baload, 1) := by decide +kernel
theorem d_Model_isText_38 : decode b_Model_isText 38 = .ok (.aload_n 2, 1) := by decide +kernel
theorem d_Model_isText_39 : decode b_Model_isText 39 = .ok (.iload_n 3, 1) := by decide +kernel
theorem d_Model_isText_40 : decode b_Model_isText 40 = .ok (.invokevirtual 81, 3) := by decide +kernel
theorem d_Model_isText_43 : decode b_Model_isText 43 = .ok (.if_icmp .eq 5, 3) := by decide +kernel
theorem d_Model_isText_46 : decode b_Model_isText 46 = .ok (.iconst 0, 1) := by decide +kernel
theorem d_Model_isText_47 : decode b_Model_isText 47 = .ok (.ireturn, 1) := by decide +kernel
theorem d_Model_isText_48 : decode b_Model_isText 48 = .ok (.iinc 3 1, 3) := by decide +kernel
theorem d_Model_isText_51 : decode b_Model_isText 51 = .ok (.goto (-34), 3) := by decide +kernel
theorem d_Model_isText_54 : decode b_Model_isText 54 = .ok (.iconst 1, 1) := by decide +kernel
theorem d_Model_isText_55 : decode b_Model_isText 55 = .ok (.ireturn, 1) := by decide +kernel
theorem hd_String_length : y_String_length.cls ≠ "java/lang/invoke/MethodHandle" ∧ y_String_length.cls ≠ "java/lang/invoke/VarHandle" ∧ (parseMethodDescriptor y_String_length.desc).map (fun d => d.parameters.length) = some 0 := by decide +kernel
theorem hd_String_charAt : y_String_charAt.cls ≠ "java/lang/invoke/MethodHandle" ∧ y_String_charAt.cls ≠ "java/lang/invoke/VarHandle" ∧ (parseMethodDescriptor y_String_charAt.desc).map (fun d => d.parameters.length) = some 1 := by decide +kernel
theorem d_Model_primitive_0 : decode b_Model_primitive 0 = .ok (.aload_n 0, 1) := by decide +kernel
theorem d_Model_primitive_1 : decode b_Model_primitive 1 = .ok (.getfield 25, 3) := by decide +kernel
theorem d_Model_primitive_4 : decode b_Model_primitive 4 = .ok (.iload_n 1, 1) := by decide +kernel
theorem d_Model_primitive_5 : decode b_Model_primitive 5 = .ok (.iaload, 1) := by decide +kernel
theorem d_Model_primitive_6 : decode b_Model_primitive 6 = .ok (.ifCond .ne 159, 3) := by decide +kernel
theorem d_Model_primitive_9 : decode b_Model_primitive 9 = .ok (.iconst 0, 1) := by decide +kernel
theorem d_Model_primitive_10 : decode b_Model_primitive 10 = .ok (.istore_n 2, 1) := by decide +kernel
theorem d_Model_primitive_11 : decode b_Model_primitive 11 = .ok (.iconst 1, 1) := by decide +kernel
theorem d_Model_primitive_12 : decode b_Model_primitive 12 = .ok (.istore_n 3, 1) := by decide +kernel
theorem d_Model_primitive_13 : decode b_Model_primitive 13 = .ok (.aload_n 0, 1) := by decide +kernel
theorem d_Model_primitive_14 : decode b_Model_primitive 14 = .ok (.getfield 25, 3) := by decide +kernel
theorem d_Model_primitive_17 : decode b_Model_primitive 17 = .ok (.iload_n 1, 1) := by decide +kernel
theorem d_Model_primitive_18 : decode b_Model_primitive 18 = .ok (.iconst 1, 1) := by decide +kernel
theorem d_Model_primitive_19 : decode b_Model_primitive 19 = .ok (.iastore, 1) := by decide +kernel
theorem d_Model_primitive_20 : decode b_Model_primitive 20 = .ok (.iload_n 3, 1) := by decide +kernel
theorem d_Model_primitive_21 : decode b_Model_primitive 21 = .ok (.ldc_w 668, 3) := by decide +kernel
theorem d_Model_primitive_24 : decode b_Model_primitive 24 = .ok (.invokevirtual 75, 3) := by decide +kernel
theorem d_Model_primitive_27 : decode b_Model_primitive 27 = .ok (.if_icmp .ge 138, 3) := by decide +kernel
theorem d_Model_primitive_30 : decode b_Model_primitive 30 = .ok (.iload_n 3, 1) := by decide +kernel
theorem d_Model_primitive_31 : decode b_Model_primitive 31 = .ok (.istore 4, 2) := by decide +kernel
theorem d_Model_primitive_33 : decode b_Model_primitive 33 = .ok (.ldc_w 668, 3) := by decide +kernel
theorem d_Model_primitive_36 : decode b_Model_primitive 36 = .ok (.iload 4, 2) := by decide +kernel
theorem d_Model_primitive_38 : decode b_Model_primitive 38 = .ok (.invokevirtual 81, 3) := by decide +kernel
theorem d_Model_primitive_41 : decode b_Model_primitive 41 = .ok (.bipush 32, 2) := by decide +kernel
theorem d_Model_primitive_43 : decode b_Model_primitive 43 = .ok (.if_icmp .eq 9, 3) := by decide +kernel
theorem d_Model_primitive_46 : decode b_Model_primitive 46 = .ok (.iinc 4 1, 3) := by decide +kernel
theorem d_Model_primitive_49 : decode b_Model_primitive 49 = .ok (.goto (-16), 3) := by decide +kernel
theorem d_Model_primitive_52 : decode b_Model_primitive 52 = .ok (.iload 4, 2) := by decide +kernel
theorem d_Model_primitive_54 : decode b_Model_primitive 54 = .ok (.iload_n 3, 1) := by decide +kernel
theorem d_Model_primitive_55 : decode b_Model_primitive 55 = .ok (.isub, 1) := by decide +kernel
theorem d_Model_primitive_56 : decode b_Model_primitive 56 = .ok (.aload_n 0, 1) := by decide +kernel
theorem d_Model_primitive_57 : decode b_Model_primitive 57 = .ok (.getfield 22, 3) := by decide +kernel
theorem d_Model_primitive_60 : decode b_Model_primitive 60 = .ok (.iload_n 1, 1) := by decide +kernel
theorem d_Model_primitive_61 : decode b_Model_primitive 61 = .ok (.iaload, 1) := by decide +kernel
theorem d_Model_primitive_62 : decode b_Model_primitive 62 = .ok (.if_icmp .ne 7, 3) := by decide +kernel
theorem d_Model_primitive_65 : decode b_Model_primitive 65 = .ok (.iconst 1, 1) := by decide +kernel
theorem d_Model_primitive_66 : decode b_Model_primitive 66 = .ok (.goto 4, 3) := by decide +kernel
theorem d_Model_primitive_69 : decode b_Model_primitive 69 = .ok (.iconst 0, 1) := by decide +kernel
theorem d_Model_primitive_70 : decode b_Model_primitive 70 = .ok (.istore 5, 2) := by decide +kernel
theorem d_Model_primitive_72 : decode b_Model_primitive 72 = .ok (.iconst 0, 1) := by decide +kernel
theorem d_Model_primitive_73 : decode b_Model_primitive 73 = .ok (.istore 6, 2) := by decide +kernel
theorem d_Model_primitive_75 : decode b_Model_primitive 75 = .ok (.iload 5, 2) := by decide +kernel
theorem d_Model_primitive_77 : decode b_Model_primitive 77 = .ok (.ifCond .eq 54, 3) := by decide +kernel
theorem d_Model_primitive_80 : decode b_Model_primitive 80 = .ok (.iload 6, 2) := by decide +kernel
theorem d_Model_primitive_82 : decode b_Model_primitive 82 = .ok (.aload_n 0, 1) := by decide +kernel
theorem d_Model_primitive_83 : decode b_Model_primitive 83 = .ok (.getfield 22, 3) := by decide +kernel
theorem d_Model_primitive_86 : decode b_Model_primitive 86 = .ok (.iload_n 1, 1) := by decide +kernel
theorem d_Model_primitive_87 : decode b_Model_primitive 87 = .ok (.iaload, 1) := by decide +kernel
theorem d_Model_primitive_88 : decode b_Model_primitive 88 = .ok (.if_icmp .ge 43, 3) := by decide +kernel
theorem d_Model_primitive_91 : decode b_Model_primitive 91 = .ok (.aload_n 0, 1) := by decide +kernel
theorem d_Model_primitive_92 : decode b_Model_primitive 92 = .ok (.getfield 67, 3) := by decide +kernel
theorem d_Model_primitive_95 : decode b_Model_primitive 95 = .ok (.aload_n 0, 1) := by decide +kernel
theorem d_Model_primitive_96 : decode b_Model_primitive 96 = .ok (.getfield 15, 3) := by decide +kernel
theorem d_Model_primitive_99 : decode b_Model_primitive 99 = .ok (.iload_n 1, 1) := by decide +kernel
theorem d_Model_primitive_100 : decode b_Model_primitive 100 = .ok (.iaload, 1) := by decide +kernel
theorem d_Model_primitive_101 : decode b_Model_primitive 101 = .ok (.iload 6, 2) := by decide +kernel
theorem d_Model_primitive_103 : decode b_Model_primitive 103 = .ok (.iadd, 1) := by decide +kernel
theorem d_Model_primitive_104 : decode b_Model_primitive 104 = .ok (.baload, 1) := by decide +kernel
theorem d_Model_primitive_105 : decode b_Model_primitive 105 = .ok (.ldc_w 668, 3) := by decide +kernel
theorem d_Model_primitive_108 : decode b_Model_primitive 108 = .ok (.iload_n 3, 1) := by decide +kernel
theorem d_Model_primitive_109 : decode b_Model_primitive 109 = .ok (.iload 6, 2) := by decide +kernel
theorem d_Model_primitive_111 : decode b_Model_primitive 111 = .ok (.iadd, 1) := by decide +kernel
theorem d_Model_primitive_112 : decode b_Model_primitive 112 = .ok (.invokevirtual 81, 3) := by decide +kernel
theorem d_Model_primitive_115 : decode b_Model_primitive 115 = .ok (.if_icmp .ne 7, 3) := by decide +kernel
theorem d_Model_primitive_118 : decode b_Model_primitive 118 = .ok (.iconst 1, 1) := by decide +kernel
theorem d_Model_primitive_119 : decode b_Model_primitive 119 = .ok (.goto 4, 3) := by decide +kernel
theorem d_Model_primitive_122 : decode b_Model_primitive 122 = .ok (.iconst 0, 1) := by decide +kernel
theorem d_Model_primitive_123 : decode b_Model_primitive 123 = .ok (.istore 5, 2) := by decide +kernel
theorem d_Model_primitive_125 : decode b_Model_primitive 125 = .ok (.iinc 6 1, 3) := by decide +kernel
theorem d_Model_primitive_128 : decode b_Model_primitive 128 = .ok (.goto (-53), 3) := by decide +kernel
theorem d_Model_primitive_131 : decode b_Model_primitive 131 = .ok (.aload_n 0, 1) := by decide +kernel
theorem d_Model_primitive_132 : decode b_Model_primitive 132 = .ok (.getfield 25, 3) := by decide +kernel
theorem d_Model_primitive_135 : decode b_Model_primitive 135 = .ok (.iload_n 1, 1) := by decide +kernel
theorem d_Model_primitive_136 : decode b_Model_primitive 136 = .ok (.iload 5, 2) := by decide +kernel
theorem d_Model_primitive_138 : decode b_Model_primitive 138 = .ok (.ifCond .eq 9, 3) := by decide +kernel
theorem d_Model_primitive_141 : decode b_Model_primitive 141 = .ok (.iload_n 2, 1) := by decide +kernel
theorem d_Model_primitive_142 : decode b_Model_primitive 142 = .ok (.iconst 2, 1) := by decide +kernel
theorem d_Model_primitive_143 : decode b_Model_primitive 143 = .ok (.iadd, 1) := by decide +kernel
theorem d_Model_primitive_144 : decode b_Model_primitive 144 = .ok (.goto 9, 3) := by decide +kernel
theorem d_Model_primitive_147 : decode b_Model_primitive 147 = .ok (.aload_n 0, 1) := by decide +kernel
theorem d_Model_primitive_148 : decode b_Model_primitive 148 = .ok (.getfield 25, 3) := by decide +kernel
theorem d_Model_primitive_151 : decode b_Model_primitive 151 = .ok (.iload_n 1, 1) := by decide +kernel
theorem d_Model_primitive_152 : decode b_Model_primitive 152 = .ok (.iaload, 1) := by decide +kernel
theorem d_Model_primitive_153 : decode b_Model_primitive 153 = .ok (.iastore, 1) := by decide +kernel
theorem d_Model_primitive_154 : decode b_Model_primitive 154 = .ok (.iload 4, 2) := by decide +kernel
theorem d_Model_primitive_156 : decode b_Model_primitive 156 = .ok (.iconst 1, 1) := by decide +kernel
theorem d_Model_primitive_157 : decode b_Model_primitive 157 = .ok (.iadd, 1) := by decide +kernel
theorem d_Model_primitive_158 : decode b_Model_primitive 158 = .ok (.istore_n 3, 1) := by decide +kernel
theorem d_Model_primitive_159 : decode b_Model_primitive 159 = .ok (.iinc 2 1, 3) := by decide +kernel
theorem d_Model_primitive_162 : decode b_Model_primitive 162 = .ok (.goto (-142), 3) := by decide +kernel
theorem d_Model_primitive_165 : decode b_Model_primitive 165 = .ok (.aload_n 0, 1) := by decide +kernel
theorem d_Model_primitive_166 : decode b_Model_primitive 166 = .ok (.getfield 25, 3) := by decide +kernel
theorem d_Model_primitive_169 : decode b_Model_primitive 169 = .ok (.iload_n 1, 1) := by decide +kernel
theorem d_Model_primitive_170 : decode b_Model_primitive 170 = .ok (.iaload, 1) := by decide +kernel
theorem d_Model_primitive_171 : decode b_Model_primitive 171 = .ok (.iconst 2, 1) := by decide +kernel
theorem d_Model_primitive_172 : decode b_Model_primitive 172 = .ok (.isub, 1) := by decide +kernel
theorem d_Model_primitive_173 : decode b_Model_primitive 173 = .ok (.ifCond .ge 7, 3) := by decide +kernel
theorem d_Model_primitive_176 : decode b_Model_primitive 176 = .ok (.iconst (-1), 1) := by decide +kernel
theorem d_Model_primitive_177 : decode b_Model_primitive 177 = .ok (.goto 11, 3) := by decide +kernel
theorem d_Model_primitive_180 : decode b_Model_primitive 180 = .ok (.aload_n 0, 1) := by decide +kernel
theorem d_Model_primitive_181 : decode b_Model_primitive 181 = .ok (.getfield 25, 3) := by decide +kernel
theorem d_Model_primitive_184 : decode b_Model_primitive 184 = .ok (.iload_n 1, 1) := by decide +kernel
theorem d_Model_primitive_185 : decode b_Model_primitive 185 = .ok (.iaload, 1) := by decide +kernel
theorem d_Model_primitive_186 : decode b_Model_primitive 186 = .ok (.iconst 2, 1) := by decide +kernel
theorem d_Model_primitive_187 : decode b_Model_primitive 187 = .ok (.isub, 1) := by decide +kernel
theorem d_Model_primitive_188 : decode b_Model_primitive 188 = .ok (.ireturn, 1) := by decide +kernel
theorem d_Model_moveWord_0 : decode b_Model_moveWord 0 = .ok (.aload_n 0, 1) := by decide +kernel
theorem d_Model_moveWord_1 : decode b_Model_moveWord 1 = .ok (.getfield 166, 3) := by decide +kernel
theorem d_Model_moveWord_4 : decode b_Model_moveWord 4 = .ok (.iload_n 1, 1) := by decide +kernel
theorem d_Model_moveWord_5 : decode b_Model_moveWord 5 = .ok (.iaload, 1) := by decide +kernel
theorem d_Model_moveWord_6 : decode b_Model_moveWord 6 = .ok (.iconst (-1), 1) := by decide +kernel
theorem d_Model_moveWord_7 : decode b_Model_moveWord 7 = .ok (.if_icmp .ne 93, 3) := by decide +kernel
theorem d_Model_moveWord_10 : decode b_Model_moveWord 10 = .ok (.aload_n 0, 1) := by decide +kernel
theorem d_Model_moveWord_11 : decode b_Model_moveWord 11 = .ok (.getfield 67, 3) := by decide +kernel
theorem d_Model_moveWord_14 : decode b_Model_moveWord 14 = .ok (.aload_n 0, 1) := by decide +kernel
theorem d_Model_moveWord_15 : decode b_Model_moveWord 15 = .ok (.getfield 15, 3) := by decide +kernel
theorem d_Model_moveWord_18 : decode b_Model_moveWord 18 = .ok (.iload_n 1, 1) := by decide +kernel
theorem d_Model_moveWord_19 : decode b_Model_moveWord 19 = .ok (.iaload, 1) := by decide +kernel
theorem d_Model_moveWord_20 : decode b_Model_moveWord 20 = .ok (.aload_n 0, 1) := by decide +kernel
theorem d_Model_moveWord_21 : decode b_Model_moveWord 21 = .ok (.getfield 156, 3) := by decide +kernel
theorem d_Model_moveWord_24 : decode b_Model_moveWord 24 = .ok (.aload_n 0, 1) := by decide +kernel
theorem d_Model_moveWord_25 : decode b_Model_moveWord 25 = .ok (.getfield 387, 3) := by decide +kernel
theorem d_Model_moveWord_28 : decode b_Model_moveWord 28 = .ok (.aload_n 0, 1) := by decide +kernel
theorem d_Model_moveWord_29 : decode b_Model_moveWord 29 = .ok (.getfield 22, 3) := by decide +kernel
theorem d_Model_moveWord_32 : decode b_Model_moveWord 32 = .ok (.iload_n 1, 1) := by decide +kernel
theorem d_Model_moveWord_33 : decode b_Model_moveWord 33 = .ok (.iaload, 1) := by decide +kernel
theorem d_Model_moveWord_34 : decode b_Model_moveWord 34 = .ok (.invokestatic 334, 3) := by decide +kernel
theorem d_Model_moveWord_37 : decode b_Model_moveWord 37 = .ok (.aload_n 0, 1) := by decide +kernel
theorem d_Model_moveWord_38 : decode b_Model_moveWord 38 = .ok (.getfield 160, 3) := by decide +kernel
theorem d_Model_moveWord_41 : decode b_Model_moveWord 41 = .ok (.aload_n 0, 1) := by decide +kernel
theorem d_Model_moveWord_42 : decode b_Model_moveWord 42 = .ok (.getfield 390, 3) := by decide +kernel
theorem d_Model_moveWord_45 : decode b_Model_moveWord 45 = .ok (.aload_n 0, 1) := by decide +kernel
theorem d_Model_moveWord_46 : decode b_Model_moveWord 46 = .ok (.getfield 387, 3) := by decide +kernel
theorem d_Model_moveWord_49 : decode b_Model_moveWord 49 = .ok (.iastore, 1) := by decide +kernel
theorem d_Model_moveWord_50 : decode b_Model_moveWord 50 = .ok (.aload_n 0, 1) := by decide +kernel
theorem d_Model_moveWord_51 : decode b_Model_moveWord 51 = .ok (.getfield 163, 3) := by decide +kernel
theorem d_Model_moveWord_54 : decode b_Model_moveWord 54 = .ok (.aload_n 0, 1) := by decide +kernel
theorem d_Model_moveWord_55 : decode b_Model_moveWord 55 = .ok (.getfield 390, 3) := by decide +kernel
theorem d_Model_moveWord_58 : decode b_Model_moveWord 58 = .ok (.aload_n 0, 1) := by decide +kernel
theorem d_Model_moveWord_59 : decode b_Model_moveWord 59 = .ok (.getfield 22, 3) := by decide +kernel
theorem d_Model_moveWord_62 : decode b_Model_moveWord 62 = .ok (.iload_n 1, 1) := by decide +kernel
theorem d_Model_moveWord_63 : decode b_Model_moveWord 63 = .ok (.iaload, 1) := by decide +kernel
theorem d_Model_moveWord_64 : decode b_Model_moveWord 64 = .ok (.iastore, 1) := by decide +kernel
theorem d_Model_moveWord_65 : decode b_Model_moveWord 65 = .ok (.aload_n 0, 1) := by decide +kernel
theorem d_Model_moveWord_66 : decode b_Model_moveWord 66 = .ok (.dup, 1) := by decide +kernel
theorem d_Model_moveWord_67 : decode b_Model_moveWord 67 = .ok (.getfield 387, 3) := by decide +kernel
theorem d_Model_moveWord_70 : decode b_Model_moveWord 70 = .ok (.aload_n 0, 1) := by decide +kernel
theorem d_Model_moveWord_71 : decode b_Model_moveWord 71 = .ok (.getfield 22, 3) := by decide +kernel
theorem d_Model_moveWord_74 : decode b_Model_moveWord 74 = .ok (.iload_n 1, 1) := by decide +kernel
theorem d_Model_moveWord_75 : decode b_Model_moveWord 75 = .ok (.iaload, 1) := by decide +kernel
theorem d_Model_moveWord_76 : decode b_Model_moveWord 76 = .ok (.iadd, 1) := by decide +kernel
theorem d_Model_moveWord_77 : decode b_Model_moveWord 77 = .ok (.putfield 387, 3) := by decide +kernel
theorem d_Model_moveWord_80 : decode b_Model_moveWord 80 = .ok (.aload_n 0, 1) := by decide +kernel
theorem d_Model_moveWord_81 : decode b_Model_moveWord 81 = .ok (.getfield 166, 3) := by decide +kernel
theorem d_Model_moveWord_84 : decode b_Model_moveWord 84 = .ok (.iload_n 1, 1) := by decide +kernel
theorem d_Model_moveWord_85 : decode b_Model_moveWord 85 = .ok (.aload_n 0, 1) := by decide +kernel
theorem d_Model_moveWord_86 : decode b_Model_moveWord 86 = .ok (.getfield 390, 3) := by decide +kernel
theorem d_Model_moveWord_89 : decode b_Model_moveWord 89 = .ok (.iastore, 1) := by decide +kernel
theorem d_Model_moveWord_90 : decode b_Model_moveWord 90 = .ok (.aload_n 0, 1) := by decide +kernel
theorem d_Model_moveWord_91 : decode b_Model_moveWord 91 = .ok (.dup, 1) := by decide +kernel
theorem d_Model_moveWord_92 : decode b_Model_moveWord 92 = .ok (.getfield 390, 3) := by decide +kernel
theorem d_Model_moveWord_95 : decode b_Model_moveWord 95 = .ok (.iconst 1, 1) := by decide +kernel
theorem d_Model_moveWord_96 : decode b_Model_moveWord 96 = .ok (.iadd, 1) := by decide +kernel
theorem d_Model_moveWord_97 : decode b_Model_moveWord 97 = .ok (.putfield 390, 3) := by decide +kernel
theorem d_Model_moveWord_100 : decode b_Model_moveWord 100 = .ok (.aload_n 0, 1) := by decide +kernel
theorem d_Model_moveWord_101 : decode b_Model_moveWord 101 = .ok (.getfield 166, 3) := by decide +kernel
theorem d_Model_moveWord_104 : decode b_Model_moveWord 104 = .ok (.iload_n 1, 1) := by decide +kernel
theorem d_Model_moveWord_105 : decode b_Model_moveWord 105 = .ok (.iaload, 1) := by decide +kernel
theorem d_Model_moveWord_106 : decode b_Model_moveWord 106 = .ok (.ireturn, 1) := by decide +kernel
theorem d_Model_arity_0 : decode b_Model_arity 0 = .ok (.ldc_w 670, 3) := by decide +kernel
theorem d_Model_arity_3 : decode b_Model_arity 3 = .ok (.iload_n 0, 1) := by decide +kernel
theorem d_Model_arity_4 : decode b_Model_arity 4 = .ok (.invokevirtual 81, 3) := by decide +kernel
theorem d_Model_arity_7 : decode b_Model_arity 7 = .ok (.bipush 48, 2) := by decide +kernel
theorem d_Model_arity_9 : decode b_Model_arity 9 = .ok (.isub, 1) := by decide +kernel
theorem d_Model_arity_10 : decode b_Model_arity 10 = .ok (.ireturn, 1) := by decide +kernel
theorem d_Model_kinds_0 : decode b_Model_kinds 0 = .ok (.iload_n 0, 1) := by decide +kernel
theorem d_Model_kinds_1 : decode b_Model_kinds 1 = .ok (.tableswitch 359 0 69 #[295, 295, 295, 295, 295, 359, 359, 295, 359, 299, 359, 303, 359, 359, 359, 359, 359, 359, 307, 299, 299, 299, 299, 299, 295, 299, 299, 295, 311, 311, 315, 359, 359, 359, 359, 359, 319, 319, 319, 319, 319, 323, 327, 327, 359, 359, 327, 319, 359, 331, 335, 335, 335, 339, 335, 335, 319, 343, 347, 323, 359, 351, 351, 359, 351, 355, 359, 359, 339, 335], 295) := by decide +kernel
theorem d_Model_kinds_296 : decode b_Model_kinds 296 = .ok (.ldc_w 672, 3) := by decide +kernel
theorem d_Model_kinds_299 : decode b_Model_kinds 299 = .ok (.areturn, 1) := by decide +kernel
theorem d_Model_kinds_300 : decode b_Model_kinds 300 = .ok (.ldc_w 674, 3) := by decide +kernel
theorem d_Model_kinds_303 : decode b_Model_kinds 303 = .ok (.areturn, 1) := by decide +kernel
theorem d_Model_kinds_304 : decode b_Model_kinds 304 = .ok (.ldc_w 676, 3) := by decide +kernel
theorem d_Model_kinds_307 : decode b_Model_kinds 307 = .ok (.areturn, 1) := by decide +kernel
theorem d_Model_kinds_308 : decode b_Model_kinds 308 = .ok (.ldc_w 678, 3) := by decide +kernel
theorem d_Model_kinds_311 : decode b_Model_kinds 311 = .ok (.areturn, 1) := by decide +kernel
theorem d_Model_kinds_312 : decode b_Model_kinds 312 = .ok (.ldc_w 680, 3) := by decide +kernel
theorem d_Model_kinds_315 : decode b_Model_kinds 315 = .ok (.areturn, 1) := by decide +kernel
theorem d_Model_kinds_316 : decode b_Model_kinds 316 = .ok (.ldc_w 682, 3) := by decide +kernel
theorem d_Model_kinds_319 : decode b_Model_kinds 319 = .ok (.areturn, 1) := by decide +kernel
theorem d_Model_kinds_320 : decode b_Model_kinds 320 = .ok (.ldc_w 684, 3) := by decide +kernel
theorem d_Model_kinds_323 : decode b_Model_kinds 323 = .ok (.areturn, 1) := by decide +kernel
theorem d_Model_kinds_324 : decode b_Model_kinds 324 = .ok (.ldc_w 686, 3) := by decide +kernel
theorem d_Model_kinds_327 : decode b_Model_kinds 327 = .ok (.areturn, 1) := by decide +kernel
theorem d_Model_kinds_328 : decode b_Model_kinds 328 = .ok (.ldc_w 688, 3) := by decide +kernel
theorem d_Model_kinds_331 : decode b_Model_kinds 331 = .ok (.areturn, 1) := by decide +kernel
theorem d_Model_kinds_332 : decode b_Model_kinds 332 = .ok (.ldc_w 690, 3) := by decide +kernel
theorem d_Model_kinds_335 : decode b_Model_kinds 335 = .ok (.areturn, 1) := by decide +kernel
theorem d_Model_kinds_336 : decode b_Model_kinds 336 = .ok (.ldc_w 692, 3) := by decide +kernel
theorem d_Model_kinds_339 : decode b_Model_kinds 339 = .ok (.areturn, 1) := by decide +kernel
theorem d_Model_kinds_340 : decode b_Model_kinds 340 = .ok (.ldc_w 694, 3) := by decide +kernel
theorem d_Model_kinds_343 : decode b_Model_kinds 343 = .ok (.areturn, 1) := by decide +kernel
theorem d_Model_kinds_344 : decode b_Model_kinds 344 = .ok (.ldc_w 696, 3) := by decide +kernel
theorem d_Model_kinds_347 : decode b_Model_kinds 347 = .ok (.areturn, 1) := by decide +kernel
theorem d_Model_kinds_348 : decode b_Model_kinds 348 = .ok (.ldc_w 698, 3) := by decide +kernel
theorem d_Model_kinds_351 : decode b_Model_kinds 351 = .ok (.areturn, 1) := by decide +kernel
theorem d_Model_kinds_352 : decode b_Model_kinds 352 = .ok (.ldc_w 700, 3) := by decide +kernel
theorem d_Model_kinds_355 : decode b_Model_kinds 355 = .ok (.areturn, 1) := by decide +kernel
theorem d_Model_kinds_356 : decode b_Model_kinds 356 = .ok (.ldc_w 702, 3) := by decide +kernel
theorem d_Model_kinds_359 : decode b_Model_kinds 359 = .ok (.areturn, 1) := by decide +kernel
theorem d_Model_kinds_360 : decode b_Model_kinds 360 = .ok (.ldc_w 704, 3) := by decide +kernel
theorem d_Model_kinds_363 : decode b_Model_kinds 363 = .ok (.areturn, 1) := by decide +kernel
def m_Model_thrown (n : Nat) (i : Nat → Int32) (j : Nat → Int64) (a : Nat → Nat → Int32) (b : Nat → Nat → Int64)  : Option (Int32) := some (i 0)
set_option maxHeartbeats 4000000 in
set_option maxRecDepth 100000 in
theorem x_Model_thrown (l : Launch) (dC : Nat → ClassId) (dI : Nat → Nat → Nat) (cI cJ cB : ClassId) (adK adV adA : Nat → Nat) (h : Nat) (v : Nat → Nat) (sz : Nat) (n : Nat) {i : Nat → Int32} {j : Nat → Int64} {a : Nat → Nat → Int32} {b : Nat → Nat → Int64}  {r2 : Int32} (hm : m_Model_thrown n i j a b = some r2) : Met l y_Model_thrown w_Model_thrown ({ frames := 0, cells := 0, slots := 0, locals := 0 } : Room) (va_Pc [.ref h] (yEr dC dI cI cJ cB adK adV adA h v i j a b sz)) (va_Qi (xR r2) xT (xN sz)) 0 0 (xN sz) := by
  refine Met.ofW (cc := b_Model_thrown) (maxL := 1) (ret := (some .int)) (by decide) rfl ?_
  intro p e s m args below meth c s₁ B hml hv
  obtain ⟨rfl, hsz, hP, hK, hE⟩ := hv
  have hx := B.exec
  have hb := B.bytes
  have hr := B.returns
  have hts := atoms_spec (ws := w_Model_thrown) B.pre
  have htt : ∀ w ∈ tw_T, w.before _ s = true := fun w h => hts w (List.mem_cons_of_mem _ h)
  have hown : s.vm.findClass R_Model = some m.cls := findClass_of_methodNamed B.named
  have hlocks := B.notSynchronized
  subst hsz
  generalize hAe : xN s.heap.size = A at hE ⊢
  have hA : ∀ q : Nat, s.heap.size ≤ q → A q := fun q h => by rw [← hAe]; exact Or.inr h
  have hS : va_S A s.heap s.heap [] := va_S.rf
  have hl := lv_entry ([.ref h]) (n := 1) (Nat.le_of_ble_eq_true rfl)
  rw [lg_entry_eq]
  generalize (lg_sl ([.ref h]) ++ List.replicate (1 - (lg_sl ([.ref h])).length) Slot.unset).toArray = ls at hl ⊢
  have hl : lv_has ls 1 [(0, .ref h)] := hl
  rw [m_Model_thrown] at hm
  refine lv_aload_n hx hb d_Model_thrown_0 rfl (lv_at hl 0 rfl) ?_
  refine va_get (D := (dC, dI)) (ci := 12) (v := .int (i 0)) (C := R_Model) (T := F_Model) (N := 127) hx hb htt iw_Model hown hK hP 0 yo_12 rfl 0 (Nat.le_of_ble_eq_true rfl) (htt _ lk_Model_1) (fun _ h9 => h9) yg_0 d_Model_thrown_1 ?_
  have e3 := re1 hm
  exact W.iret hx hb hr (fun t9 ht hW => ⟨⟨_, (), rfl, e3.symm, trivial⟩, hS.F ht⟩) hS.2.2 d_Model_thrown_4

def m_Model_feed_b76 (n : Nat) (rc_23 : (Nat → Int32) → (Nat → Int64) → (Nat → Nat → Int32) → (Nat → Nat → Int64) → Int32 → Int32 → Int32 → Int32 → Int32 → Int32 → Option ((Nat → Int32) × (Nat → Int64) × (Nat → Nat → Int32) × (Nat → Nat → Int64) × Int32)) (i : Nat → Int32) (j : Nat → Int64) (a : Nat → Nat → Int32) (b : Nat → Nat → Int64) (v1 : Int32) (v2 : Int32) (v3 : Int32) (v4 : Int32) (v5 : Int32) (v6 : Int32) (s0 : Int32) : Option ((Nat → Int32) × (Nat → Int64) × (Nat → Nat → Int32) × (Nat → Nat → Int64) × Int32) := ck ((i 74)) 4000 (ob1 (sv a 73 (i 74).toNatClampNeg (vp_nar .byte ((s0 >>> (((24 - (8 * (v6 - v6 / 4 * 4))) : Int32) &&& 31)).toInt8.toInt32)) : Nat → Nat → Int32) (fun a_2 => ob1 ((i 74) + 1 : Int32) (fun x_3 => ob1 (upd i 74 x_3 : Nat → Int32) (fun i_4 => ob1 (v6 + 1 : Int32) (fun x_5 => rc_23 i_4 j a_2 b v1 v2 v3 v4 v5 x_5)))))
set_option maxHeartbeats 4000000 in
set_option maxRecDepth 100000 in
theorem lb_Model_feed_76 (l : Launch) (dC : Nat → ClassId) (dI : Nat → Nat → Nat) (cI cJ cB : ClassId) (adK adV adA : Nat → Nat) (h : Nat) (v : Nat → Nat) (n : Nat) {p : Program} {e : Env} {s : State} {m : MethodId} {args : Array Value} {below : List Frame} {meth : Method} {c : Code} {A : Nat → Prop} (hx : p.tables.exec = Jvm.exec) (hb : c.code = b_Model_feed) (hml : c.maxLocals = 8) (hown : s.vm.findClass R_Model = some m.cls) (hts : ∀ w ∈ w_Model_feed, w.before args s = true) (hK : va_K (dC, dI) classes [(cI, .int), (cJ, .long), (cB, .byte)] s) (hE : tw_E adK adV adA A s s.heap) (hA : ∀ q : Nat, s.heap.size ≤ q → A q) (hr : meth.sig.returnType = (some .boolean)) (hlocks : meth.locks = false) {i2 : Nat → Int32} {j2 : Nat → Int64} {a2 : Nat → Nat → Int32} {b2 : Nat → Nat → Int64} {r2 : Int32} (rc_23 : (Nat → Int32) → (Nat → Int64) → (Nat → Nat → Int32) → (Nat → Nat → Int64) → Int32 → Int32 → Int32 → Int32 → Int32 → Int32 → Option ((Nat → Int32) × (Nat → Int64) × (Nat → Nat → Int32) × (Nat → Nat → Int64) × Int32)) (Hrc_23 : ∀ (i : Nat → Int32) (j : Nat → Int64) (a : Nat → Nat → Int32) (b : Nat → Nat → Int64) (v1 : Int32) (v2 : Int32) (v3 : Int32) (v4 : Int32) (v5 : Int32) (v6 : Int32), rc_23 i j a b v1 v2 v3 v4 v5 v6 = some (i2, j2, a2, b2, r2) → ∀ (H : Heap) (locs : List Loc) (ls : Array Slot), va_P (dC, dI) classes (MW cI cJ cB h v i j a b) H → va_D A (MW cI cJ cB h v i j a b) → va_S A s.heap H locs → lv_has ls 8 [(0, .ref h), (1, .int v1), (2, .int v2), (3, .int v3), (4, .int v4), (5, .int v5), (6, .int v6)] → W p l e ({ frames := 0, cells := 0, slots := 0, locals := 0 } : Room) s m args below meth c H locs 0 0 (MQ below (va_Qi (xR r2) (yB dC dI cI cJ cB h v i2 j2 a2 b2 A) A) args s 0 0 A) (F0 m 23 ls [])) (i : Nat → Int32) (j : Nat → Int64) (a : Nat → Nat → Int32) (b : Nat → Nat → Int64) (v1 : Int32) (v2 : Int32) (v3 : Int32) (v4 : Int32) (v5 : Int32) (v6 : Int32) (s0 : Int32) (hm : m_Model_feed_b76 n rc_23 i j a b v1 v2 v3 v4 v5 v6 s0 = some (i2, j2, a2, b2, r2)) : ∀ (H : Heap) (locs : List Loc) (ls : Array Slot), va_P (dC, dI) classes (MW cI cJ cB h v i j a b) H → va_D A (MW cI cJ cB h v i j a b) → va_S A s.heap H locs → lv_has ls 8 [(0, .ref h), (1, .int v1), (2, .int v2), (3, .int v3), (4, .int v4), (5, .int v5), (6, .int v6)] → W p l e ({ frames := 0, cells := 0, slots := 0, locals := 0 } : Room) s m args below meth c H locs 0 0 (MQ below (va_Qi (xR r2) (yB dC dI cI cJ cB h v i2 j2 a2 b2 A) A) args s 0 0 A) (F0 m 76 ls [.int s0]) := by
  have htt : ∀ w ∈ tw_T, w.before _ s = true := fun w h => hts w (List.mem_cons_of_mem _ h)
  intro H locs ls hP hD hS hl
  rw [m_Model_feed_b76] at hm
  refine lv_istore (lv' := [(7, .int s0), (0, .ref h), (1, .int v1), (2, .int v2), (3, .int v3), (4, .int v4), (5, .int v5), (6, .int v6)]) hx hb d_Model_feed_76 hl (by decide) rfl (fun ls hl => ?_)
  refine lv_aload_n hx hb d_Model_feed_78 rfl (lv_at hl 1 rfl) ?_
  refine va_get (D := (dC, dI)) (ci := 12) (v := .ref ((v 73))) (C := R_Model) (T := F_Model) (N := 127) hx hb htt iw_Model hown hK hP 0 yo_12 rfl 73 (Nat.le_of_ble_eq_true rfl) (htt _ lk_Model_261) (fun _ h9 => h9) yg_73 d_Model_feed_79 ?_
  refine lv_aload_n hx hb d_Model_feed_82 rfl (lv_at hl 1 rfl) ?_
  refine va_get (D := (dC, dI)) (ci := 12) (v := .int (i 74)) (C := R_Model) (T := F_Model) (N := 127) hx hb htt iw_Model hown hK hP 0 yo_12 rfl 74 (Nat.le_of_ble_eq_true rfl) (htt _ lk_Model_409) (fun _ h9 => h9) yg_74 d_Model_feed_83 ?_
  refine lv_iload hx hb d_Model_feed_86 (lv_at hl 0 rfl) ?_
  refine lv_bipush (v := 24) hx hb d_Model_feed_88 (by decide) ?_
  refine lv_bipush (v := 8) hx hb d_Model_feed_90 (by decide) ?_
  refine lv_iload hx hb d_Model_feed_92 (lv_at hl 7 rfl) ?_
  refine lv_iconst (v := 4) hx hb d_Model_feed_94 (by decide) ?_
  refine lv_irem hx hb d_Model_feed_95 (by decide) ?_
  refine lv_imul hx hb d_Model_feed_96 ?_
  refine lv_isub hx hb d_Model_feed_97 ?_
  refine lv_ishr hx hb d_Model_feed_98 ?_
  refine lv_i2b hx hb d_Model_feed_99 rfl ?_
  obtain ⟨h_1, hm⟩ := ck_some hm
  refine va_bast hx hb hK hP hD hS 49 2 ya_73 rfl h_1 d_Model_feed_100 (fun H locs hP hD hS => ?_)
  obtain ⟨a_2, ea_2⟩ : ∃ y9 : Nat → Nat → Int32, y9 = sv a 73 (i 74).toNatClampNeg (vp_nar .byte ((s0 >>> (((24 - (8 * (v6 - v6 / 4 * 4))) : Int32) &&& 31)).toInt8.toInt32)) := ⟨_, rfl⟩
  replace hm := ob1_at ea_2 hm
  obtain ⟨hP, hD⟩ := yv_73 ea_2 hP hD
  refine lv_aload_n hx hb d_Model_feed_101 rfl (lv_at hl 1 rfl) ?_
  refine lv_dup hx hb d_Model_feed_102 rfl ?_
  refine va_get (D := (dC, dI)) (ci := 12) (v := .int (i 74)) (C := R_Model) (T := F_Model) (N := 127) hx hb htt iw_Model hown hK hP 0 yo_12 rfl 74 (Nat.le_of_ble_eq_true rfl) (htt _ lk_Model_409) (fun _ h9 => h9) yg_74 d_Model_feed_103 ?_
  refine lv_iconst (v := 1) hx hb d_Model_feed_106 (by decide) ?_
  refine lv_iadd hx hb d_Model_feed_107 ?_
  refine lv_topi (fun x_3 ex_3 => ?_)
  replace hm := ob1_at ex_3 hm
  refine va_put (D := (dC, dI)) (ci := 12) (v := .int x_3) (ty := .int) (C := R_Model) (T := F_Model) (N := 127) hx hb htt iw_Model t_Model t_Model_ok n_Model hown hK hP hD hS 0 yo_12 rfl 74 (Nat.le_of_ble_eq_true rfl) (htt _ lk_Model_409) (fun _ h9 => h9) rfl (by decide +kernel) rfl rfl yl_74 d_Model_feed_108 (fun H locs hP hD hS => ?_)
  obtain ⟨i_4, ei_4⟩ : ∃ y9 : Nat → Int32, y9 = upd i 74 x_3 := ⟨_, rfl⟩
  replace hm := ob1_at ei_4 hm
  obtain ⟨hP, hD⟩ := yw_74 ei_4 hP hD
  obtain ⟨x_5, ex_5⟩ : ∃ y9 : Int32, y9 = v6 + 1 := ⟨_, rfl⟩
  replace hm := ob1_at ex_5 hm
  refine lv_iinc (v := x_5) (lv' := [(6, .int x_5), (7, .int s0), (0, .ref h), (1, .int v1), (2, .int v2), (3, .int v3), (4, .int v4), (5, .int v5)]) hx hb d_Model_feed_111 hl (k := 7) rfl (by rw [ex_5]; rfl) (by decide) rfl (fun ls hl => ?_)
  refine lv_goto (tgt := 23) hx hb d_Model_feed_114 (by decide) ?_
  exact Hrc_23 _ _ _ _ _ _ _ _ _ _ hm _ _ _ hP hD hS (lv_sub hl [2, 3, 4, 5, 6, 7, 0] rfl)
def m_Model_feed_b23 (n : Nat) : Nat → (Nat → Int32) → (Nat → Int64) → (Nat → Nat → Int32) → (Nat → Nat → Int64) → Int32 → Int32 → Int32 → Int32 → Int32 → Int32 → Option ((Nat → Int32) × (Nat → Int64) × (Nat → Nat → Int32) × (Nat → Nat → Int64) × Int32)
  | 0, _, _, _, _, _, _, _, _, _, _ => none
  | f + 1, i, j, a, b, v1, v2, v3, v4, v5, v6 => if ((20 : Int32)) ≤ v6 then some (i, j, a, b, 1) else if ((4 : Int32)) ≤ v6 then if ((8 : Int32)) ≤ v6 then if ((12 : Int32)) ≤ v6 then if ((16 : Int32)) ≤ v6 then m_Model_feed_b76 n (m_Model_feed_b23 n f) i j a b v1 v2 v3 v4 v5 v6 v5 else m_Model_feed_b76 n (m_Model_feed_b23 n f) i j a b v1 v2 v3 v4 v5 v6 v4 else m_Model_feed_b76 n (m_Model_feed_b23 n f) i j a b v1 v2 v3 v4 v5 v6 v3 else m_Model_feed_b76 n (m_Model_feed_b23 n f) i j a b v1 v2 v3 v4 v5 v6 v2 else m_Model_feed_b76 n (m_Model_feed_b23 n f) i j a b v1 v2 v3 v4 v5 v6 v1
set_option maxHeartbeats 4000000 in
set_option maxRecDepth 100000 in
theorem lb_Model_feed_23 (l : Launch) (dC : Nat → ClassId) (dI : Nat → Nat → Nat) (cI cJ cB : ClassId) (adK adV adA : Nat → Nat) (h : Nat) (v : Nat → Nat) (n : Nat) {p : Program} {e : Env} {s : State} {m : MethodId} {args : Array Value} {below : List Frame} {meth : Method} {c : Code} {A : Nat → Prop} (hx : p.tables.exec = Jvm.exec) (hb : c.code = b_Model_feed) (hml : c.maxLocals = 8) (hown : s.vm.findClass R_Model = some m.cls) (hts : ∀ w ∈ w_Model_feed, w.before args s = true) (hK : va_K (dC, dI) classes [(cI, .int), (cJ, .long), (cB, .byte)] s) (hE : tw_E adK adV adA A s s.heap) (hA : ∀ q : Nat, s.heap.size ≤ q → A q) (hr : meth.sig.returnType = (some .boolean)) (hlocks : meth.locks = false) {i2 : Nat → Int32} {j2 : Nat → Int64} {a2 : Nat → Nat → Int32} {b2 : Nat → Nat → Int64} {r2 : Int32} : ∀ (f : Nat) (i : Nat → Int32) (j : Nat → Int64) (a : Nat → Nat → Int32) (b : Nat → Nat → Int64) (v1 : Int32) (v2 : Int32) (v3 : Int32) (v4 : Int32) (v5 : Int32) (v6 : Int32), m_Model_feed_b23 n f i j a b v1 v2 v3 v4 v5 v6 = some (i2, j2, a2, b2, r2) → ∀ (H : Heap) (locs : List Loc) (ls : Array Slot), va_P (dC, dI) classes (MW cI cJ cB h v i j a b) H → va_D A (MW cI cJ cB h v i j a b) → va_S A s.heap H locs → lv_has ls 8 [(0, .ref h), (1, .int v1), (2, .int v2), (3, .int v3), (4, .int v4), (5, .int v5), (6, .int v6)] → W p l e ({ frames := 0, cells := 0, slots := 0, locals := 0 } : Room) s m args below meth c H locs 0 0 (MQ below (va_Qi (xR r2) (yB dC dI cI cJ cB h v i2 j2 a2 b2 A) A) args s 0 0 A) (F0 m 23 ls []) := by
  have htt : ∀ w ∈ tw_T, w.before _ s = true := fun w h => hts w (List.mem_cons_of_mem _ h)
  intro f
  induction f with
  | zero =>
    intro i j a b v1 v2 v3 v4 v5 v6 hm
    rw [m_Model_feed_b23] at hm
    cases hm
  | succ f ih =>
    intro i j a b v1 v2 v3 v4 v5 v6 hm H locs ls hP hD hS hl
    rw [m_Model_feed_b23] at hm
    refine lv_iload hx hb d_Model_feed_23 (lv_at hl 6 rfl) ?_
    refine lv_bipush (v := 20) hx hb d_Model_feed_25 (by decide) ?_
    refine lv_icmp_ge (tgt := 117) hx hb d_Model_feed_27 (by decide) (fun c_1 => ?_) (fun c_1 => ?_)
    · replace hm := if_t c_1 hm
      refine lv_iconst (v := 1) hx hb d_Model_feed_117 (by decide) ?_
      obtain ⟨e1i, e1j, e1a, e1b, e3⟩ := re4m hm
      obtain ⟨hP, hD⟩ := y_eq e1i e1j e1a e1b hP hD
      exact W.zret hx hb hr (by decide) (fun t9 ht hW => ⟨⟨_, (), rfl, e3.symm, by rw [ht]; exact hP, hD⟩, hS.F ht⟩) hS.2.2 d_Model_feed_118
    · replace hm := if_f c_1 hm
      refine lv_iload hx hb d_Model_feed_30 (lv_at hl 6 rfl) ?_
      refine lv_iconst (v := 4) hx hb d_Model_feed_32 (by decide) ?_
      refine lv_icmp_ge (tgt := 40) hx hb d_Model_feed_33 (by decide) (fun c_2 => ?_) (fun c_2 => ?_)
      · replace hm := if_t c_2 hm
        refine lv_iload hx hb d_Model_feed_40 (lv_at hl 6 rfl) ?_
        refine lv_bipush (v := 8) hx hb d_Model_feed_42 (by decide) ?_
        refine lv_icmp_ge (tgt := 51) hx hb d_Model_feed_44 (by decide) (fun c_3 => ?_) (fun c_3 => ?_)
        · replace hm := if_t c_3 hm
          refine lv_iload hx hb d_Model_feed_51 (lv_at hl 6 rfl) ?_
          refine lv_bipush (v := 12) hx hb d_Model_feed_53 (by decide) ?_
          refine lv_icmp_ge (tgt := 62) hx hb d_Model_feed_55 (by decide) (fun c_4 => ?_) (fun c_4 => ?_)
          · replace hm := if_t c_4 hm
            refine lv_iload hx hb d_Model_feed_62 (lv_at hl 6 rfl) ?_
            refine lv_bipush (v := 16) hx hb d_Model_feed_64 (by decide) ?_
            refine lv_icmp_ge (tgt := 74) hx hb d_Model_feed_66 (by decide) (fun c_5 => ?_) (fun c_5 => ?_)
            · replace hm := if_t c_5 hm
              refine lv_iload hx hb d_Model_feed_74 (lv_at hl 5 rfl) ?_
              exact lb_Model_feed_76 l dC dI cI cJ cB adK adV adA h v n hx hb hml hown hts hK hE hA hr hlocks (m_Model_feed_b23 n f) ih _ _ _ _ _ _ _ _ _ _ _ hm _ _ _ hP hD hS (lv_sub hl [0, 1, 2, 3, 4, 5, 6] rfl)
            · replace hm := if_f c_5 hm
              refine lv_iload hx hb d_Model_feed_69 (lv_at hl 4 rfl) ?_
              refine lv_goto (tgt := 76) hx hb d_Model_feed_71 (by decide) ?_
              exact lb_Model_feed_76 l dC dI cI cJ cB adK adV adA h v n hx hb hml hown hts hK hE hA hr hlocks (m_Model_feed_b23 n f) ih _ _ _ _ _ _ _ _ _ _ _ hm _ _ _ hP hD hS (lv_sub hl [0, 1, 2, 3, 4, 5, 6] rfl)
          · replace hm := if_f c_4 hm
            refine lv_iload_n hx hb d_Model_feed_58 rfl (lv_at hl 3 rfl) ?_
            refine lv_goto (tgt := 76) hx hb d_Model_feed_59 (by decide) ?_
            exact lb_Model_feed_76 l dC dI cI cJ cB adK adV adA h v n hx hb hml hown hts hK hE hA hr hlocks (m_Model_feed_b23 n f) ih _ _ _ _ _ _ _ _ _ _ _ hm _ _ _ hP hD hS (lv_sub hl [0, 1, 2, 3, 4, 5, 6] rfl)
        · replace hm := if_f c_3 hm
          refine lv_iload_n hx hb d_Model_feed_47 rfl (lv_at hl 2 rfl) ?_
          refine lv_goto (tgt := 76) hx hb d_Model_feed_48 (by decide) ?_
          exact lb_Model_feed_76 l dC dI cI cJ cB adK adV adA h v n hx hb hml hown hts hK hE hA hr hlocks (m_Model_feed_b23 n f) ih _ _ _ _ _ _ _ _ _ _ _ hm _ _ _ hP hD hS (lv_sub hl [0, 1, 2, 3, 4, 5, 6] rfl)
      · replace hm := if_f c_2 hm
        refine lv_iload_n hx hb d_Model_feed_36 rfl (lv_at hl 1 rfl) ?_
        refine lv_goto (tgt := 76) hx hb d_Model_feed_37 (by decide) ?_
        exact lb_Model_feed_76 l dC dI cI cJ cB adK adV adA h v n hx hb hml hown hts hK hE hA hr hlocks (m_Model_feed_b23 n f) ih _ _ _ _ _ _ _ _ _ _ _ hm _ _ _ hP hD hS (lv_sub hl [0, 1, 2, 3, 4, 5, 6] rfl)
def m_Model_feed (n : Nat) (i : Nat → Int32) (j : Nat → Int64) (a : Nat → Nat → Int32) (b : Nat → Nat → Int64) (v1 : Int32) (v2 : Int32) (v3 : Int32) (v4 : Int32) (v5 : Int32) : Option ((Nat → Int32) × (Nat → Int64) × (Nat → Nat → Int32) × (Nat → Nat → Int64) × Int32) := ob1 (upd i 0 0 : Nat → Int32) (fun i_1 => if (((i_1 74) + 20)) ≤ ((4000 : Int32)) then m_Model_feed_b23 n n i_1 j a b v1 v2 v3 v4 v5 (0 : Int32) else some (i_1, j, a, b, 0))
set_option maxHeartbeats 4000000 in
set_option maxRecDepth 100000 in
theorem x_Model_feed (l : Launch) (dC : Nat → ClassId) (dI : Nat → Nat → Nat) (cI cJ cB : ClassId) (adK adV adA : Nat → Nat) (h : Nat) (v : Nat → Nat) (sz : Nat) (n : Nat) {i : Nat → Int32} {j : Nat → Int64} {a : Nat → Nat → Int32} {b : Nat → Nat → Int64} {v1 : Int32} {v2 : Int32} {v3 : Int32} {v4 : Int32} {v5 : Int32} {i2 : Nat → Int32} {j2 : Nat → Int64} {a2 : Nat → Nat → Int32} {b2 : Nat → Nat → Int64} {r2 : Int32} (hm : m_Model_feed n i j a b v1 v2 v3 v4 v5 = some (i2, j2, a2, b2, r2)) : Met l y_Model_feed w_Model_feed ({ frames := 0, cells := 0, slots := 0, locals := 0 } : Room) (va_Pc [.ref h, .int v1, .int v2, .int v3, .int v4, .int v5] (yE dC dI cI cJ cB adK adV adA h v i j a b sz)) (va_Qi (xR r2) (yB dC dI cI cJ cB h v i2 j2 a2 b2 (va_A (MW cI cJ cB h v i j a b) sz)) (va_A (MW cI cJ cB h v i j a b) sz)) 0 0 ((va_A (MW cI cJ cB h v i j a b) sz)) := by
  refine Met.ofW (cc := b_Model_feed) (maxL := 8) (ret := (some .boolean)) (by decide) rfl ?_
  intro p e s m args below meth c s₁ B hml hv
  obtain ⟨rfl, hsz, hP, hK, hE, hD0⟩ := hv
  have hx := B.exec
  have hb := B.bytes
  have hr := B.returns
  have hts := atoms_spec (ws := w_Model_feed) B.pre
  have htt : ∀ w ∈ tw_T, w.before _ s = true := fun w h => hts w (List.mem_cons_of_mem _ h)
  have hown : s.vm.findClass R_Model = some m.cls := findClass_of_methodNamed B.named
  have hlocks := B.notSynchronized
  subst hsz
  have hD := hD0.self (sz := s.heap.size)
  generalize hAe : (va_A (MW cI cJ cB h v i j a b) s.heap.size) = A at hD hE ⊢
  have hA : ∀ q : Nat, s.heap.size ≤ q → A q := fun q h => by rw [← hAe]; exact Or.inr h
  have hS : va_S A s.heap s.heap [] := va_S.rf
  have hl := lv_entry ([.ref h, .int v1, .int v2, .int v3, .int v4, .int v5]) (n := 8) (Nat.le_of_ble_eq_true rfl)
  rw [lg_entry_eq]
  generalize (lg_sl ([.ref h, .int v1, .int v2, .int v3, .int v4, .int v5]) ++ List.replicate (8 - (lg_sl ([.ref h, .int v1, .int v2, .int v3, .int v4, .int v5])).length) Slot.unset).toArray = ls at hl ⊢
  have hl : lv_has ls 8 [(0, .ref h), (1, .int v1), (2, .int v2), (3, .int v3), (4, .int v4), (5, .int v5)] := hl
  rw [m_Model_feed] at hm
  refine lv_aload_n hx hb d_Model_feed_0 rfl (lv_at hl 0 rfl) ?_
  refine lv_iconst (v := 0) hx hb d_Model_feed_1 (by decide) ?_
  refine va_put (D := (dC, dI)) (ci := 12) (v := .int 0) (ty := .int) (C := R_Model) (T := F_Model) (N := 127) hx hb htt iw_Model t_Model t_Model_ok n_Model hown hK hP hD hS 0 yo_12 rfl 0 (Nat.le_of_ble_eq_true rfl) (htt _ lk_Model_1) (fun _ h9 => h9) rfl (by decide +kernel) rfl rfl yl_0 d_Model_feed_2 (fun H locs hP hD hS => ?_)
  obtain ⟨i_1, ei_1⟩ : ∃ y9 : Nat → Int32, y9 = upd i 0 0 := ⟨_, rfl⟩
  replace hm := ob1_at ei_1 hm
  obtain ⟨hP, hD⟩ := yw_0 ei_1 hP hD
  refine lv_aload_n hx hb d_Model_feed_5 rfl (lv_at hl 0 rfl) ?_
  refine va_get (D := (dC, dI)) (ci := 12) (v := .int (i_1 74)) (C := R_Model) (T := F_Model) (N := 127) hx hb htt iw_Model hown hK hP 0 yo_12 rfl 74 (Nat.le_of_ble_eq_true rfl) (htt _ lk_Model_409) (fun _ h9 => h9) yg_74 d_Model_feed_6 ?_
  refine lv_bipush (v := 20) hx hb d_Model_feed_9 (by decide) ?_
  refine lv_iadd hx hb d_Model_feed_11 ?_
  refine lv_sipush (v := 4000) hx hb d_Model_feed_12 (by decide) ?_
  refine lv_icmp_le (tgt := 20) hx hb d_Model_feed_15 (by decide) (fun c_2 => ?_) (fun c_2 => ?_)
  · replace hm := if_t c_2 hm
    refine lv_iconst (v := 0) hx hb d_Model_feed_20 (by decide) ?_
    refine lv_istore (lv' := [(6, .int 0), (0, .ref h), (1, .int v1), (2, .int v2), (3, .int v3), (4, .int v4), (5, .int v5)]) hx hb d_Model_feed_21 hl (by decide) rfl (fun ls hl => ?_)
    exact lb_Model_feed_23 l dC dI cI cJ cB adK adV adA h v n hx hb hml hown hts hK hE hA hr hlocks n _ _ _ _ _ _ _ _ _ _ hm _ _ _ hP hD hS (lv_sub hl [1, 2, 3, 4, 5, 6, 0] rfl)
  · replace hm := if_f c_2 hm
    refine lv_iconst (v := 0) hx hb d_Model_feed_18 (by decide) ?_
    obtain ⟨e1i, e1j, e1a, e1b, e3⟩ := re4m hm
    obtain ⟨hP, hD⟩ := y_eq e1i e1j e1a e1b hP hD
    exact W.zret hx hb hr (by decide) (fun t9 ht hW => ⟨⟨_, (), rfl, e3.symm, by rw [ht]; exact hP, hD⟩, hS.F ht⟩) hS.2.2 d_Model_feed_19

def m_Model_end (n : Nat) (i : Nat → Int32) (j : Nat → Int64) (a : Nat → Nat → Int32) (b : Nat → Nat → Int64) (v1 : Int32) : Option ((Nat → Int32) × (Nat → Int64) × (Nat → Nat → Int32) × (Nat → Nat → Int64) × Int32) := ob1 (upd i 0 0 : Nat → Int32) (fun i_1 => if v1 < ((0 : Int32)) then some (i_1, j, a, b, 0) else if v1 ≤ ((i_1 74)) then ob1 (upd i_1 74 v1 : Nat → Int32) (fun i_4 => some (i_4, j, a, b, 1)) else some (i_1, j, a, b, 0))
set_option maxHeartbeats 4000000 in
set_option maxRecDepth 100000 in
theorem x_Model_end (l : Launch) (dC : Nat → ClassId) (dI : Nat → Nat → Nat) (cI cJ cB : ClassId) (adK adV adA : Nat → Nat) (h : Nat) (v : Nat → Nat) (sz : Nat) (n : Nat) {i : Nat → Int32} {j : Nat → Int64} {a : Nat → Nat → Int32} {b : Nat → Nat → Int64} {v1 : Int32} {i2 : Nat → Int32} {j2 : Nat → Int64} {a2 : Nat → Nat → Int32} {b2 : Nat → Nat → Int64} {r2 : Int32} (hm : m_Model_end n i j a b v1 = some (i2, j2, a2, b2, r2)) : Met l y_Model_end w_Model_end ({ frames := 0, cells := 0, slots := 0, locals := 0 } : Room) (va_Pc [.ref h, .int v1] (yE dC dI cI cJ cB adK adV adA h v i j a b sz)) (va_Qi (xR r2) (yB dC dI cI cJ cB h v i2 j2 a2 b2 (va_A (MW cI cJ cB h v i j a b) sz)) (va_A (MW cI cJ cB h v i j a b) sz)) 0 0 ((va_A (MW cI cJ cB h v i j a b) sz)) := by
  refine Met.ofW (cc := b_Model_end) (maxL := 2) (ret := (some .boolean)) (by decide) rfl ?_
  intro p e s m args below meth c s₁ B hml hv
  obtain ⟨rfl, hsz, hP, hK, hE, hD0⟩ := hv
  have hx := B.exec
  have hb := B.bytes
  have hr := B.returns
  have hts := atoms_spec (ws := w_Model_end) B.pre
  have htt : ∀ w ∈ tw_T, w.before _ s = true := fun w h => hts w (List.mem_cons_of_mem _ h)
  have hown : s.vm.findClass R_Model = some m.cls := findClass_of_methodNamed B.named
  have hlocks := B.notSynchronized
  subst hsz
  have hD := hD0.self (sz := s.heap.size)
  generalize hAe : (va_A (MW cI cJ cB h v i j a b) s.heap.size) = A at hD hE ⊢
  have hA : ∀ q : Nat, s.heap.size ≤ q → A q := fun q h => by rw [← hAe]; exact Or.inr h
  have hS : va_S A s.heap s.heap [] := va_S.rf
  have hl := lv_entry ([.ref h, .int v1]) (n := 2) (Nat.le_of_ble_eq_true rfl)
  rw [lg_entry_eq]
  generalize (lg_sl ([.ref h, .int v1]) ++ List.replicate (2 - (lg_sl ([.ref h, .int v1])).length) Slot.unset).toArray = ls at hl ⊢
  have hl : lv_has ls 2 [(0, .ref h), (1, .int v1)] := hl
  rw [m_Model_end] at hm
  refine lv_aload_n hx hb d_Model_end_0 rfl (lv_at hl 0 rfl) ?_
  refine lv_iconst (v := 0) hx hb d_Model_end_1 (by decide) ?_
  refine va_put (D := (dC, dI)) (ci := 12) (v := .int 0) (ty := .int) (C := R_Model) (T := F_Model) (N := 127) hx hb htt iw_Model t_Model t_Model_ok n_Model hown hK hP hD hS 0 yo_12 rfl 0 (Nat.le_of_ble_eq_true rfl) (htt _ lk_Model_1) (fun _ h9 => h9) rfl (by decide +kernel) rfl rfl yl_0 d_Model_end_2 (fun H locs hP hD hS => ?_)
  obtain ⟨i_1, ei_1⟩ : ∃ y9 : Nat → Int32, y9 = upd i 0 0 := ⟨_, rfl⟩
  replace hm := ob1_at ei_1 hm
  obtain ⟨hP, hD⟩ := yw_0 ei_1 hP hD
  refine lv_iload_n hx hb d_Model_end_5 rfl (lv_at hl 1 rfl) ?_
  refine lv_if_lt (tgt := 17) hx hb d_Model_end_6 (by decide) (fun c_2 => ?_) (fun c_2 => ?_)
  · replace hm := if_t c_2 hm
    refine lv_iconst (v := 0) hx hb d_Model_end_17 (by decide) ?_
    obtain ⟨e1i, e1j, e1a, e1b, e3⟩ := re4m hm
    obtain ⟨hP, hD⟩ := y_eq e1i e1j e1a e1b hP hD
    exact W.zret hx hb hr (by decide) (fun t9 ht hW => ⟨⟨_, (), rfl, e3.symm, by rw [ht]; exact hP, hD⟩, hS.F ht⟩) hS.2.2 d_Model_end_18
  · replace hm := if_f c_2 hm
    refine lv_iload_n hx hb d_Model_end_9 rfl (lv_at hl 1 rfl) ?_
    refine lv_aload_n hx hb d_Model_end_10 rfl (lv_at hl 0 rfl) ?_
    refine va_get (D := (dC, dI)) (ci := 12) (v := .int (i_1 74)) (C := R_Model) (T := F_Model) (N := 127) hx hb htt iw_Model hown hK hP 0 yo_12 rfl 74 (Nat.le_of_ble_eq_true rfl) (htt _ lk_Model_409) (fun _ h9 => h9) yg_74 d_Model_end_11 ?_
    refine lv_icmp_le (tgt := 19) hx hb d_Model_end_14 (by decide) (fun c_3 => ?_) (fun c_3 => ?_)
    · replace hm := if_t c_3 hm
      refine lv_aload_n hx hb d_Model_end_19 rfl (lv_at hl 0 rfl) ?_
      refine lv_iload_n hx hb d_Model_end_20 rfl (lv_at hl 1 rfl) ?_
      refine va_put (D := (dC, dI)) (ci := 12) (v := .int v1) (ty := .int) (C := R_Model) (T := F_Model) (N := 127) hx hb htt iw_Model t_Model t_Model_ok n_Model hown hK hP hD hS 0 yo_12 rfl 74 (Nat.le_of_ble_eq_true rfl) (htt _ lk_Model_409) (fun _ h9 => h9) rfl (by decide +kernel) rfl rfl yl_74 d_Model_end_21 (fun H locs hP hD hS => ?_)
      obtain ⟨i_4, ei_4⟩ : ∃ y9 : Nat → Int32, y9 = upd i_1 74 v1 := ⟨_, rfl⟩
      replace hm := ob1_at ei_4 hm
      obtain ⟨hP, hD⟩ := yw_74 ei_4 hP hD
      refine lv_iconst (v := 1) hx hb d_Model_end_24 (by decide) ?_
      obtain ⟨e1i, e1j, e1a, e1b, e3⟩ := re4m hm
      obtain ⟨hP, hD⟩ := y_eq e1i e1j e1a e1b hP hD
      exact W.zret hx hb hr (by decide) (fun t9 ht hW => ⟨⟨_, (), rfl, e3.symm, by rw [ht]; exact hP, hD⟩, hS.F ht⟩) hS.2.2 d_Model_end_25
    · replace hm := if_f c_3 hm
      refine lv_iconst (v := 0) hx hb d_Model_end_17 (by decide) ?_
      obtain ⟨e1i, e1j, e1a, e1b, e3⟩ := re4m hm
      obtain ⟨hP, hD⟩ := y_eq e1i e1j e1a e1b hP hD
      exact W.zret hx hb hr (by decide) (fun t9 ht hW => ⟨⟨_, (), rfl, e3.symm, by rw [ht]; exact hP, hD⟩, hS.F ht⟩) hS.2.2 d_Model_end_18

def m_Model_isGood (n : Nat) (v0 : Int32) : Option (Int32) := if v0 = ((10 : Int32)) then some 1 else if v0 < ((32 : Int32)) then some 0 else if ((126 : Int32)) < v0 then some 0 else some 1
set_option maxHeartbeats 4000000 in
set_option maxRecDepth 100000 in
theorem x_Model_isGood (l : Launch) (sz : Nat) (n : Nat) {v0 : Int32} {r2 : Int32} (hm : m_Model_isGood n v0 = some r2) : Met l y_Model_isGood w_Model_isGood ({ frames := 0, cells := 0, slots := 0, locals := 0 } : Room) (va_Pc [.int v0] (xE0 sz)) (va_Qi (xR r2) xT (xN sz)) 0 0 (xN sz) := by
  refine Met.ofW (cc := b_Model_isGood) (maxL := 1) (ret := (some .boolean)) (by decide) rfl ?_
  intro p e s m args below meth c s₁ B hml hv
  obtain ⟨rfl, hsz⟩ := hv
  have hx := B.exec
  have hb := B.bytes
  have hr := B.returns
  have hts := atoms_spec (ws := w_Model_isGood) B.pre
  have htt : ∀ w ∈ tw_T, w.before _ s = true := fun w h => hts w (List.mem_cons_of_mem _ h)
  have hown : s.vm.findClass R_Model = some m.cls := findClass_of_methodNamed B.named
  have hlocks := B.notSynchronized
  subst hsz
  generalize hAe : xN s.heap.size = A
  have hA : ∀ q : Nat, s.heap.size ≤ q → A q := fun q h => by rw [← hAe]; exact Or.inr h
  have hS : va_S A s.heap s.heap [] := va_S.rf
  have hl := lv_entry ([.int v0]) (n := 1) (Nat.le_of_ble_eq_true rfl)
  rw [lg_entry_eq]
  generalize (lg_sl ([.int v0]) ++ List.replicate (1 - (lg_sl ([.int v0])).length) Slot.unset).toArray = ls at hl ⊢
  have hl : lv_has ls 1 [(0, .int v0)] := hl
  rw [m_Model_isGood] at hm
  refine lv_iload_n hx hb d_Model_isGood_0 rfl (lv_at hl 0 rfl) ?_
  refine lv_bipush (v := 10) hx hb d_Model_isGood_1 (by decide) ?_
  refine lv_icmp_eq (tgt := 18) hx hb d_Model_isGood_3 (by decide) (fun c_1 => ?_) (fun c_1 => ?_)
  · replace hm := if_t c_1 hm
    refine lv_iconst (v := 1) hx hb d_Model_isGood_18 (by decide) ?_
    refine lv_goto (tgt := 23) hx hb d_Model_isGood_19 (by decide) ?_
    have e3 := re1 hm
    exact W.zret hx hb hr (by decide) (fun t9 ht hW => ⟨⟨_, (), rfl, e3.symm, trivial⟩, hS.F ht⟩) hS.2.2 d_Model_isGood_23
  · replace hm := if_f c_1 hm
    refine lv_iload_n hx hb d_Model_isGood_6 rfl (lv_at hl 0 rfl) ?_
    refine lv_bipush (v := 32) hx hb d_Model_isGood_7 (by decide) ?_
    refine lv_icmp_lt (tgt := 22) hx hb d_Model_isGood_9 (by decide) (fun c_2 => ?_) (fun c_2 => ?_)
    · replace hm := if_t c_2 hm
      refine lv_iconst (v := 0) hx hb d_Model_isGood_22 (by decide) ?_
      have e3 := re1 hm
      exact W.zret hx hb hr (by decide) (fun t9 ht hW => ⟨⟨_, (), rfl, e3.symm, trivial⟩, hS.F ht⟩) hS.2.2 d_Model_isGood_23
    · replace hm := if_f c_2 hm
      refine lv_iload_n hx hb d_Model_isGood_12 rfl (lv_at hl 0 rfl) ?_
      refine lv_bipush (v := 126) hx hb d_Model_isGood_13 (by decide) ?_
      refine lv_icmp_gt (tgt := 22) hx hb d_Model_isGood_15 (by decide) (fun c_3 => ?_) (fun c_3 => ?_)
      · replace hm := if_t c_3 hm
        refine lv_iconst (v := 0) hx hb d_Model_isGood_22 (by decide) ?_
        have e3 := re1 hm
        exact W.zret hx hb hr (by decide) (fun t9 ht hW => ⟨⟨_, (), rfl, e3.symm, trivial⟩, hS.F ht⟩) hS.2.2 d_Model_isGood_23
      · replace hm := if_f c_3 hm
        refine lv_iconst (v := 1) hx hb d_Model_isGood_18 (by decide) ?_
        refine lv_goto (tgt := 23) hx hb d_Model_isGood_19 (by decide) ?_
        have e3 := re1 hm
        exact W.zret hx hb hr (by decide) (fun t9 ht hW => ⟨⟨_, (), rfl, e3.symm, trivial⟩, hS.F ht⟩) hS.2.2 d_Model_isGood_23

def m_Model_fail (n : Nat) (i : Nat → Int32) (j : Nat → Int64) (a : Nat → Nat → Int32) (b : Nat → Nat → Int64) (v1 : Int32) (v2 : Int32) : Option ((Nat → Int32) × (Nat → Int64) × (Nat → Nat → Int32) × (Nat → Nat → Int64) × Int32) := if ((i 75)) = ((0 : Int32)) then ob1 (upd i 75 v1 : Nat → Int32) (fun i_2 => ob1 (upd i_2 76 v2 : Nat → Int32) (fun i_3 => some (i_3, j, a, b, (0 : Int32)))) else some (i, j, a, b, (0 : Int32))
set_option maxHeartbeats 4000000 in
set_option maxRecDepth 100000 in
theorem x_Model_fail (l : Launch) (dC : Nat → ClassId) (dI : Nat → Nat → Nat) (cI cJ cB : ClassId) (adK adV adA : Nat → Nat) (h : Nat) (v : Nat → Nat) (sz : Nat) (n : Nat) {i : Nat → Int32} {j : Nat → Int64} {a : Nat → Nat → Int32} {b : Nat → Nat → Int64} {v1 : Int32} {v2 : Int32} {i2 : Nat → Int32} {j2 : Nat → Int64} {a2 : Nat → Nat → Int32} {b2 : Nat → Nat → Int64} {r2 : Int32} (hm : m_Model_fail n i j a b v1 v2 = some (i2, j2, a2, b2, r2)) : Met l y_Model_fail w_Model_fail ({ frames := 0, cells := 0, slots := 0, locals := 0 } : Room) (va_Pc [.ref h, .int v1, .int v2] (yE dC dI cI cJ cB adK adV adA h v i j a b sz)) (va_Qv xV (yB dC dI cI cJ cB h v i2 j2 a2 b2 (va_A (MW cI cJ cB h v i j a b) sz)) (va_A (MW cI cJ cB h v i j a b) sz)) 0 0 ((va_A (MW cI cJ cB h v i j a b) sz)) := by
  refine Met.ofW (cc := b_Model_fail) (maxL := 3) (ret := none) (by decide) rfl ?_
  intro p e s m args below meth c s₁ B hml hv
  obtain ⟨rfl, hsz, hP, hK, hE, hD0⟩ := hv
  have hx := B.exec
  have hb := B.bytes
  have hr := B.returns
  have hts := atoms_spec (ws := w_Model_fail) B.pre
  have htt : ∀ w ∈ tw_T, w.before _ s = true := fun w h => hts w (List.mem_cons_of_mem _ h)
  have hown : s.vm.findClass R_Model = some m.cls := findClass_of_methodNamed B.named
  have hlocks := B.notSynchronized
  subst hsz
  have hD := hD0.self (sz := s.heap.size)
  generalize hAe : (va_A (MW cI cJ cB h v i j a b) s.heap.size) = A at hD hE ⊢
  have hA : ∀ q : Nat, s.heap.size ≤ q → A q := fun q h => by rw [← hAe]; exact Or.inr h
  have hS : va_S A s.heap s.heap [] := va_S.rf
  have hl := lv_entry ([.ref h, .int v1, .int v2]) (n := 3) (Nat.le_of_ble_eq_true rfl)
  rw [lg_entry_eq]
  generalize (lg_sl ([.ref h, .int v1, .int v2]) ++ List.replicate (3 - (lg_sl ([.ref h, .int v1, .int v2])).length) Slot.unset).toArray = ls at hl ⊢
  have hl : lv_has ls 3 [(0, .ref h), (1, .int v1), (2, .int v2)] := hl
  rw [m_Model_fail] at hm
  refine lv_aload_n hx hb d_Model_fail_0 rfl (lv_at hl 0 rfl) ?_
  refine va_get (D := (dC, dI)) (ci := 12) (v := .int (i 75)) (C := R_Model) (T := F_Model) (N := 127) hx hb htt iw_Model hown hK hP 0 yo_12 rfl 75 (Nat.le_of_ble_eq_true rfl) (htt _ lk_Model_416) (fun _ h9 => h9) yg_75 d_Model_fail_1 ?_
  refine lv_if_ne (tgt := 17) hx hb d_Model_fail_4 (by decide) (fun c_1 => ?_) (fun c_1 => ?_)
  · replace hm := if_f c_1 hm
    obtain ⟨e1i, e1j, e1a, e1b, e3⟩ := re4m hm
    obtain ⟨hP, hD⟩ := y_eq e1i e1j e1a e1b hP hD
    exact W.vret hx hb hr (fun t9 ht hW => ⟨⟨(), rfl, trivial, by rw [ht]; exact hP, hD⟩, hS.F ht⟩) hS.2.2 d_Model_fail_17
  · replace hm := if_t c_1 hm
    refine lv_aload_n hx hb d_Model_fail_7 rfl (lv_at hl 0 rfl) ?_
    refine lv_iload_n hx hb d_Model_fail_8 rfl (lv_at hl 1 rfl) ?_
    refine va_put (D := (dC, dI)) (ci := 12) (v := .int v1) (ty := .int) (C := R_Model) (T := F_Model) (N := 127) hx hb htt iw_Model t_Model t_Model_ok n_Model hown hK hP hD hS 0 yo_12 rfl 75 (Nat.le_of_ble_eq_true rfl) (htt _ lk_Model_416) (fun _ h9 => h9) rfl (by decide +kernel) rfl rfl yl_75 d_Model_fail_9 (fun H locs hP hD hS => ?_)
    obtain ⟨i_2, ei_2⟩ : ∃ y9 : Nat → Int32, y9 = upd i 75 v1 := ⟨_, rfl⟩
    replace hm := ob1_at ei_2 hm
    obtain ⟨hP, hD⟩ := yw_75 ei_2 hP hD
    refine lv_aload_n hx hb d_Model_fail_12 rfl (lv_at hl 0 rfl) ?_
    refine lv_iload_n hx hb d_Model_fail_13 rfl (lv_at hl 2 rfl) ?_
    refine va_put (D := (dC, dI)) (ci := 12) (v := .int v2) (ty := .int) (C := R_Model) (T := F_Model) (N := 127) hx hb htt iw_Model t_Model t_Model_ok n_Model hown hK hP hD hS 0 yo_12 rfl 76 (Nat.le_of_ble_eq_true rfl) (htt _ lk_Model_264) (fun _ h9 => h9) rfl (by decide +kernel) rfl rfl yl_76 d_Model_fail_14 (fun H locs hP hD hS => ?_)
    obtain ⟨i_3, ei_3⟩ : ∃ y9 : Nat → Int32, y9 = upd i_2 76 v2 := ⟨_, rfl⟩
    replace hm := ob1_at ei_3 hm
    obtain ⟨hP, hD⟩ := yw_76 ei_3 hP hD
    obtain ⟨e1i, e1j, e1a, e1b, e3⟩ := re4m hm
    obtain ⟨hP, hD⟩ := y_eq e1i e1j e1a e1b hP hD
    exact W.vret hx hb hr (fun t9 ht hW => ⟨⟨(), rfl, trivial, by rw [ht]; exact hP, hD⟩, hS.F ht⟩) hS.2.2 d_Model_fail_17

def m_Model_isSign (n : Nat) (v0 : Int32) : Option (Int32) := if v0 = ((43 : Int32)) then some 1 else if v0 = ((45 : Int32)) then some 1 else if v0 = ((42 : Int32)) then some 1 else if v0 = ((47 : Int32)) then some 1 else if v0 = ((61 : Int32)) then some 1 else if v0 = ((60 : Int32)) then some 1 else if v0 = ((62 : Int32)) then some 1 else some 0
set_option maxHeartbeats 4000000 in
set_option maxRecDepth 100000 in
theorem x_Model_isSign (l : Launch) (sz : Nat) (n : Nat) {v0 : Int32} {r2 : Int32} (hm : m_Model_isSign n v0 = some r2) : Met l y_Model_isSign w_Model_isSign ({ frames := 0, cells := 0, slots := 0, locals := 0 } : Room) (va_Pc [.int v0] (xE0 sz)) (va_Qi (xR r2) xT (xN sz)) 0 0 (xN sz) := by
  refine Met.ofW (cc := b_Model_isSign) (maxL := 1) (ret := (some .boolean)) (by decide) rfl ?_
  intro p e s m args below meth c s₁ B hml hv
  obtain ⟨rfl, hsz⟩ := hv
  have hx := B.exec
  have hb := B.bytes
  have hr := B.returns
  have hts := atoms_spec (ws := w_Model_isSign) B.pre
  have htt : ∀ w ∈ tw_T, w.before _ s = true := fun w h => hts w (List.mem_cons_of_mem _ h)
  have hown : s.vm.findClass R_Model = some m.cls := findClass_of_methodNamed B.named
  have hlocks := B.notSynchronized
  subst hsz
  generalize hAe : xN s.heap.size = A
  have hA : ∀ q : Nat, s.heap.size ≤ q → A q := fun q h => by rw [← hAe]; exact Or.inr h
  have hS : va_S A s.heap s.heap [] := va_S.rf
  have hl := lv_entry ([.int v0]) (n := 1) (Nat.le_of_ble_eq_true rfl)
  rw [lg_entry_eq]
  generalize (lg_sl ([.int v0]) ++ List.replicate (1 - (lg_sl ([.int v0])).length) Slot.unset).toArray = ls at hl ⊢
  have hl : lv_has ls 1 [(0, .int v0)] := hl
  rw [m_Model_isSign] at hm
  refine lv_iload_n hx hb d_Model_isSign_0 rfl (lv_at hl 0 rfl) ?_
  refine lv_bipush (v := 43) hx hb d_Model_isSign_1 (by decide) ?_
  refine lv_icmp_eq (tgt := 42) hx hb d_Model_isSign_3 (by decide) (fun c_1 => ?_) (fun c_1 => ?_)
  · replace hm := if_t c_1 hm
    refine lv_iconst (v := 1) hx hb d_Model_isSign_42 (by decide) ?_
    refine lv_goto (tgt := 47) hx hb d_Model_isSign_43 (by decide) ?_
    have e3 := re1 hm
    exact W.zret hx hb hr (by decide) (fun t9 ht hW => ⟨⟨_, (), rfl, e3.symm, trivial⟩, hS.F ht⟩) hS.2.2 d_Model_isSign_47
  · replace hm := if_f c_1 hm
    refine lv_iload_n hx hb d_Model_isSign_6 rfl (lv_at hl 0 rfl) ?_
    refine lv_bipush (v := 45) hx hb d_Model_isSign_7 (by decide) ?_
    refine lv_icmp_eq (tgt := 42) hx hb d_Model_isSign_9 (by decide) (fun c_2 => ?_) (fun c_2 => ?_)
    · replace hm := if_t c_2 hm
      refine lv_iconst (v := 1) hx hb d_Model_isSign_42 (by decide) ?_
      refine lv_goto (tgt := 47) hx hb d_Model_isSign_43 (by decide) ?_
      have e3 := re1 hm
      exact W.zret hx hb hr (by decide) (fun t9 ht hW => ⟨⟨_, (), rfl, e3.symm, trivial⟩, hS.F ht⟩) hS.2.2 d_Model_isSign_47
    · replace hm := if_f c_2 hm
      refine lv_iload_n hx hb d_Model_isSign_12 rfl (lv_at hl 0 rfl) ?_
      refine lv_bipush (v := 42) hx hb d_Model_isSign_13 (by decide) ?_
      refine lv_icmp_eq (tgt := 42) hx hb d_Model_isSign_15 (by decide) (fun c_3 => ?_) (fun c_3 => ?_)
      · replace hm := if_t c_3 hm
        refine lv_iconst (v := 1) hx hb d_Model_isSign_42 (by decide) ?_
        refine lv_goto (tgt := 47) hx hb d_Model_isSign_43 (by decide) ?_
        have e3 := re1 hm
        exact W.zret hx hb hr (by decide) (fun t9 ht hW => ⟨⟨_, (), rfl, e3.symm, trivial⟩, hS.F ht⟩) hS.2.2 d_Model_isSign_47
      · replace hm := if_f c_3 hm
        refine lv_iload_n hx hb d_Model_isSign_18 rfl (lv_at hl 0 rfl) ?_
        refine lv_bipush (v := 47) hx hb d_Model_isSign_19 (by decide) ?_
        refine lv_icmp_eq (tgt := 42) hx hb d_Model_isSign_21 (by decide) (fun c_4 => ?_) (fun c_4 => ?_)
        · replace hm := if_t c_4 hm
          refine lv_iconst (v := 1) hx hb d_Model_isSign_42 (by decide) ?_
          refine lv_goto (tgt := 47) hx hb d_Model_isSign_43 (by decide) ?_
          have e3 := re1 hm
          exact W.zret hx hb hr (by decide) (fun t9 ht hW => ⟨⟨_, (), rfl, e3.symm, trivial⟩, hS.F ht⟩) hS.2.2 d_Model_isSign_47
        · replace hm := if_f c_4 hm
          refine lv_iload_n hx hb d_Model_isSign_24 rfl (lv_at hl 0 rfl) ?_
          refine lv_bipush (v := 61) hx hb d_Model_isSign_25 (by decide) ?_
          refine lv_icmp_eq (tgt := 42) hx hb d_Model_isSign_27 (by decide) (fun c_5 => ?_) (fun c_5 => ?_)
          · replace hm := if_t c_5 hm
            refine lv_iconst (v := 1) hx hb d_Model_isSign_42 (by decide) ?_
            refine lv_goto (tgt := 47) hx hb d_Model_isSign_43 (by decide) ?_
            have e3 := re1 hm
            exact W.zret hx hb hr (by decide) (fun t9 ht hW => ⟨⟨_, (), rfl, e3.symm, trivial⟩, hS.F ht⟩) hS.2.2 d_Model_isSign_47
          · replace hm := if_f c_5 hm
            refine lv_iload_n hx hb d_Model_isSign_30 rfl (lv_at hl 0 rfl) ?_
            refine lv_bipush (v := 60) hx hb d_Model_isSign_31 (by decide) ?_
            refine lv_icmp_eq (tgt := 42) hx hb d_Model_isSign_33 (by decide) (fun c_6 => ?_) (fun c_6 => ?_)
            · replace hm := if_t c_6 hm
              refine lv_iconst (v := 1) hx hb d_Model_isSign_42 (by decide) ?_
              refine lv_goto (tgt := 47) hx hb d_Model_isSign_43 (by decide) ?_
              have e3 := re1 hm
              exact W.zret hx hb hr (by decide) (fun t9 ht hW => ⟨⟨_, (), rfl, e3.symm, trivial⟩, hS.F ht⟩) hS.2.2 d_Model_isSign_47
            · replace hm := if_f c_6 hm
              refine lv_iload_n hx hb d_Model_isSign_36 rfl (lv_at hl 0 rfl) ?_
              refine lv_bipush (v := 62) hx hb d_Model_isSign_37 (by decide) ?_
              refine lv_icmp_ne (tgt := 46) hx hb d_Model_isSign_39 (by decide) (fun c_7 => ?_) (fun c_7 => ?_)
              · replace hm := if_f c_7 hm
                refine lv_iconst (v := 0) hx hb d_Model_isSign_46 (by decide) ?_
                have e3 := re1 hm
                exact W.zret hx hb hr (by decide) (fun t9 ht hW => ⟨⟨_, (), rfl, e3.symm, trivial⟩, hS.F ht⟩) hS.2.2 d_Model_isSign_47
              · replace hm := if_t c_7 hm
                refine lv_iconst (v := 1) hx hb d_Model_isSign_42 (by decide) ?_
                refine lv_goto (tgt := 47) hx hb d_Model_isSign_43 (by decide) ?_
                have e3 := re1 hm
                exact W.zret hx hb hr (by decide) (fun t9 ht hW => ⟨⟨_, (), rfl, e3.symm, trivial⟩, hS.F ht⟩) hS.2.2 d_Model_isSign_47

def m_Model_isDigit (n : Nat) (v0 : Int32) : Option (Int32) := if v0 < ((48 : Int32)) then some 0 else if ((57 : Int32)) < v0 then some 0 else some 1
set_option maxHeartbeats 4000000 in
set_option maxRecDepth 100000 in
theorem x_Model_isDigit (l : Launch) (sz : Nat) (n : Nat) {v0 : Int32} {r2 : Int32} (hm : m_Model_isDigit n v0 = some r2) : Met l y_Model_isDigit w_Model_isDigit ({ frames := 0, cells := 0, slots := 0, locals := 0 } : Room) (va_Pc [.int v0] (xE0 sz)) (va_Qi (xR r2) xT (xN sz)) 0 0 (xN sz) := by
  refine Met.ofW (cc := b_Model_isDigit) (maxL := 1) (ret := (some .boolean)) (by decide) rfl ?_
  intro p e s m args below meth c s₁ B hml hv
  obtain ⟨rfl, hsz⟩ := hv
  have hx := B.exec
  have hb := B.bytes
  have hr := B.returns
  have hts := atoms_spec (ws := w_Model_isDigit) B.pre
  have htt : ∀ w ∈ tw_T, w.before _ s = true := fun w h => hts w (List.mem_cons_of_mem _ h)
  have hown : s.vm.findClass R_Model = some m.cls := findClass_of_methodNamed B.named
  have hlocks := B.notSynchronized
  subst hsz
  generalize hAe : xN s.heap.size = A
  have hA : ∀ q : Nat, s.heap.size ≤ q → A q := fun q h => by rw [← hAe]; exact Or.inr h
  have hS : va_S A s.heap s.heap [] := va_S.rf
  have hl := lv_entry ([.int v0]) (n := 1) (Nat.le_of_ble_eq_true rfl)
  rw [lg_entry_eq]
  generalize (lg_sl ([.int v0]) ++ List.replicate (1 - (lg_sl ([.int v0])).length) Slot.unset).toArray = ls at hl ⊢
  have hl : lv_has ls 1 [(0, .int v0)] := hl
  rw [m_Model_isDigit] at hm
  refine lv_iload_n hx hb d_Model_isDigit_0 rfl (lv_at hl 0 rfl) ?_
  refine lv_bipush (v := 48) hx hb d_Model_isDigit_1 (by decide) ?_
  refine lv_icmp_lt (tgt := 16) hx hb d_Model_isDigit_3 (by decide) (fun c_1 => ?_) (fun c_1 => ?_)
  · replace hm := if_t c_1 hm
    refine lv_iconst (v := 0) hx hb d_Model_isDigit_16 (by decide) ?_
    have e3 := re1 hm
    exact W.zret hx hb hr (by decide) (fun t9 ht hW => ⟨⟨_, (), rfl, e3.symm, trivial⟩, hS.F ht⟩) hS.2.2 d_Model_isDigit_17
  · replace hm := if_f c_1 hm
    refine lv_iload_n hx hb d_Model_isDigit_6 rfl (lv_at hl 0 rfl) ?_
    refine lv_bipush (v := 57) hx hb d_Model_isDigit_7 (by decide) ?_
    refine lv_icmp_gt (tgt := 16) hx hb d_Model_isDigit_9 (by decide) (fun c_2 => ?_) (fun c_2 => ?_)
    · replace hm := if_t c_2 hm
      refine lv_iconst (v := 0) hx hb d_Model_isDigit_16 (by decide) ?_
      have e3 := re1 hm
      exact W.zret hx hb hr (by decide) (fun t9 ht hW => ⟨⟨_, (), rfl, e3.symm, trivial⟩, hS.F ht⟩) hS.2.2 d_Model_isDigit_17
    · replace hm := if_f c_2 hm
      refine lv_iconst (v := 1) hx hb d_Model_isDigit_12 (by decide) ?_
      refine lv_goto (tgt := 17) hx hb d_Model_isDigit_13 (by decide) ?_
      have e3 := re1 hm
      exact W.zret hx hb hr (by decide) (fun t9 ht hW => ⟨⟨_, (), rfl, e3.symm, trivial⟩, hS.F ht⟩) hS.2.2 d_Model_isDigit_17

def m_Model_isBlank (n : Nat) (v0 : Int32) : Option (Int32) := if v0 = ((10 : Int32)) then some 1 else if v0 = ((32 : Int32)) then some 1 else if v0 = ((59 : Int32)) then some 1 else some 0
set_option maxHeartbeats 4000000 in
set_option maxRecDepth 100000 in
theorem x_Model_isBlank (l : Launch) (sz : Nat) (n : Nat) {v0 : Int32} {r2 : Int32} (hm : m_Model_isBlank n v0 = some r2) : Met l y_Model_isBlank w_Model_isBlank ({ frames := 0, cells := 0, slots := 0, locals := 0 } : Room) (va_Pc [.int v0] (xE0 sz)) (va_Qi (xR r2) xT (xN sz)) 0 0 (xN sz) := by
  refine Met.ofW (cc := b_Model_isBlank) (maxL := 1) (ret := (some .boolean)) (by decide) rfl ?_
  intro p e s m args below meth c s₁ B hml hv
  obtain ⟨rfl, hsz⟩ := hv
  have hx := B.exec
  have hb := B.bytes
  have hr := B.returns
  have hts := atoms_spec (ws := w_Model_isBlank) B.pre
  have htt : ∀ w ∈ tw_T, w.before _ s = true := fun w h => hts w (List.mem_cons_of_mem _ h)
  have hown : s.vm.findClass R_Model = some m.cls := findClass_of_methodNamed B.named
  have hlocks := B.notSynchronized
  subst hsz
  generalize hAe : xN s.heap.size = A
  have hA : ∀ q : Nat, s.heap.size ≤ q → A q := fun q h => by rw [← hAe]; exact Or.inr h
  have hS : va_S A s.heap s.heap [] := va_S.rf
  have hl := lv_entry ([.int v0]) (n := 1) (Nat.le_of_ble_eq_true rfl)
  rw [lg_entry_eq]
  generalize (lg_sl ([.int v0]) ++ List.replicate (1 - (lg_sl ([.int v0])).length) Slot.unset).toArray = ls at hl ⊢
  have hl : lv_has ls 1 [(0, .int v0)] := hl
  rw [m_Model_isBlank] at hm
  refine lv_iload_n hx hb d_Model_isBlank_0 rfl (lv_at hl 0 rfl) ?_
  refine lv_bipush (v := 10) hx hb d_Model_isBlank_1 (by decide) ?_
  refine lv_icmp_eq (tgt := 18) hx hb d_Model_isBlank_3 (by decide) (fun c_1 => ?_) (fun c_1 => ?_)
  · replace hm := if_t c_1 hm
    refine lv_iconst (v := 1) hx hb d_Model_isBlank_18 (by decide) ?_
    refine lv_goto (tgt := 23) hx hb d_Model_isBlank_19 (by decide) ?_
    have e3 := re1 hm
    exact W.zret hx hb hr (by decide) (fun t9 ht hW => ⟨⟨_, (), rfl, e3.symm, trivial⟩, hS.F ht⟩) hS.2.2 d_Model_isBlank_23
  · replace hm := if_f c_1 hm
    refine lv_iload_n hx hb d_Model_isBlank_6 rfl (lv_at hl 0 rfl) ?_
    refine lv_bipush (v := 32) hx hb d_Model_isBlank_7 (by decide) ?_
    refine lv_icmp_eq (tgt := 18) hx hb d_Model_isBlank_9 (by decide) (fun c_2 => ?_) (fun c_2 => ?_)
    · replace hm := if_t c_2 hm
      refine lv_iconst (v := 1) hx hb d_Model_isBlank_18 (by decide) ?_
      refine lv_goto (tgt := 23) hx hb d_Model_isBlank_19 (by decide) ?_
      have e3 := re1 hm
      exact W.zret hx hb hr (by decide) (fun t9 ht hW => ⟨⟨_, (), rfl, e3.symm, trivial⟩, hS.F ht⟩) hS.2.2 d_Model_isBlank_23
    · replace hm := if_f c_2 hm
      refine lv_iload_n hx hb d_Model_isBlank_12 rfl (lv_at hl 0 rfl) ?_
      refine lv_bipush (v := 59) hx hb d_Model_isBlank_13 (by decide) ?_
      refine lv_icmp_ne (tgt := 22) hx hb d_Model_isBlank_15 (by decide) (fun c_3 => ?_) (fun c_3 => ?_)
      · replace hm := if_f c_3 hm
        refine lv_iconst (v := 0) hx hb d_Model_isBlank_22 (by decide) ?_
        have e3 := re1 hm
        exact W.zret hx hb hr (by decide) (fun t9 ht hW => ⟨⟨_, (), rfl, e3.symm, trivial⟩, hS.F ht⟩) hS.2.2 d_Model_isBlank_23
      · replace hm := if_t c_3 hm
        refine lv_iconst (v := 1) hx hb d_Model_isBlank_18 (by decide) ?_
        refine lv_goto (tgt := 23) hx hb d_Model_isBlank_19 (by decide) ?_
        have e3 := re1 hm
        exact W.zret hx hb hr (by decide) (fun t9 ht hW => ⟨⟨_, (), rfl, e3.symm, trivial⟩, hS.F ht⟩) hS.2.2 d_Model_isBlank_23

def m_Model_number (n : Nat) (v0 : Int32) : Option (Int64) := some (v0.toInt64 <<< ((2 : Int32).toInt64 &&& 63))
set_option maxHeartbeats 4000000 in
set_option maxRecDepth 100000 in
theorem x_Model_number (l : Launch) (sz : Nat) (n : Nat) {v0 : Int32} {r2 : Int64} (hm : m_Model_number n v0 = some r2) : Met l y_Model_number w_Model_number ({ frames := 0, cells := 0, slots := 0, locals := 0 } : Room) (va_Pc [.int v0] (xE0 sz)) (va_Ql (xR r2) xT (xN sz)) 0 0 (xN sz) := by
  refine Met.ofW (cc := b_Model_number) (maxL := 1) (ret := (some .long)) (by decide) rfl ?_
  intro p e s m args below meth c s₁ B hml hv
  obtain ⟨rfl, hsz⟩ := hv
  have hx := B.exec
  have hb := B.bytes
  have hr := B.returns
  have hts := atoms_spec (ws := w_Model_number) B.pre
  have htt : ∀ w ∈ tw_T, w.before _ s = true := fun w h => hts w (List.mem_cons_of_mem _ h)
  have hown : s.vm.findClass R_Model = some m.cls := findClass_of_methodNamed B.named
  have hlocks := B.notSynchronized
  subst hsz
  generalize hAe : xN s.heap.size = A
  have hA : ∀ q : Nat, s.heap.size ≤ q → A q := fun q h => by rw [← hAe]; exact Or.inr h
  have hS : va_S A s.heap s.heap [] := va_S.rf
  have hl := lv_entry ([.int v0]) (n := 1) (Nat.le_of_ble_eq_true rfl)
  rw [lg_entry_eq]
  generalize (lg_sl ([.int v0]) ++ List.replicate (1 - (lg_sl ([.int v0])).length) Slot.unset).toArray = ls at hl ⊢
  have hl : lv_has ls 1 [(0, .int v0)] := hl
  rw [m_Model_number] at hm
  refine lv_iload_n hx hb d_Model_number_0 rfl (lv_at hl 0 rfl) ?_
  refine lv_i2l hx hb d_Model_number_1 rfl ?_
  refine lv_iconst (v := 2) hx hb d_Model_number_2 (by decide) ?_
  refine lv_lshl hx hb d_Model_number_3 rfl ?_
  have e3 := re1 hm
  exact W.lret hx hb hr (fun t9 ht hW => ⟨⟨_, (), rfl, e3.symm, trivial⟩, hS.F ht⟩) hS.2.2 d_Model_number_4

def m_Model_newWord (n : Nat) (i : Nat → Int32) (j : Nat → Int64) (a : Nat → Nat → Int32) (b : Nat → Nat → Int64) (v1 : Int32) (v2 : Int32) : Option ((Nat → Int32) × (Nat → Int64) × (Nat → Nat → Int32) × (Nat → Nat → Int64) × Int32) := ck ((i 19)) 120000 (ob1 (sv a 3 (i 19).toNatClampNeg v1 : Nat → Nat → Int32) (fun a_2 => ck ((i 19)) 120000 (ob1 (sv a_2 4 (i 19).toNatClampNeg v2 : Nat → Nat → Int32) (fun a_4 => ck ((i 19)) 120000 (ob1 (sv a_4 7 (i 19).toNatClampNeg 0 : Nat → Nat → Int32) (fun a_6 => ck ((i 19)) 120000 (ob1 (svl b 9 (i 19).toNatClampNeg 3 : Nat → Nat → Int64) (fun b_8 => ob1 ((i 19) + 1 : Int32) (fun x_9 => ob1 (upd i 19 x_9 : Nat → Int32) (fun i_10 => some (i_10, j, a_6, b_8, (i_10 19) - 1)))))))))))
set_option maxHeartbeats 4000000 in
set_option maxRecDepth 100000 in
theorem x_Model_newWord (l : Launch) (dC : Nat → ClassId) (dI : Nat → Nat → Nat) (cI cJ cB : ClassId) (adK adV adA : Nat → Nat) (h : Nat) (v : Nat → Nat) (sz : Nat) (n : Nat) {i : Nat → Int32} {j : Nat → Int64} {a : Nat → Nat → Int32} {b : Nat → Nat → Int64} {v1 : Int32} {v2 : Int32} {i2 : Nat → Int32} {j2 : Nat → Int64} {a2 : Nat → Nat → Int32} {b2 : Nat → Nat → Int64} {r2 : Int32} (hm : m_Model_newWord n i j a b v1 v2 = some (i2, j2, a2, b2, r2)) : Met l y_Model_newWord w_Model_newWord ({ frames := 0, cells := 0, slots := 0, locals := 0 } : Room) (va_Pc [.ref h, .int v1, .int v2] (yE dC dI cI cJ cB adK adV adA h v i j a b sz)) (va_Qi (xR r2) (yB dC dI cI cJ cB h v i2 j2 a2 b2 (va_A (MW cI cJ cB h v i j a b) sz)) (va_A (MW cI cJ cB h v i j a b) sz)) 0 0 ((va_A (MW cI cJ cB h v i j a b) sz)) := by
  refine Met.ofW (cc := b_Model_newWord) (maxL := 3) (ret := (some .int)) (by decide) rfl ?_
  intro p e s m args below meth c s₁ B hml hv
  obtain ⟨rfl, hsz, hP, hK, hE, hD0⟩ := hv
  have hx := B.exec
  have hb := B.bytes
  have hr := B.returns
  have hts := atoms_spec (ws := w_Model_newWord) B.pre
  have htt : ∀ w ∈ tw_T, w.before _ s = true := fun w h => hts w (List.mem_cons_of_mem _ h)
  have hown : s.vm.findClass R_Model = some m.cls := findClass_of_methodNamed B.named
  have hlocks := B.notSynchronized
  subst hsz
  have hD := hD0.self (sz := s.heap.size)
  generalize hAe : (va_A (MW cI cJ cB h v i j a b) s.heap.size) = A at hD hE ⊢
  have hA : ∀ q : Nat, s.heap.size ≤ q → A q := fun q h => by rw [← hAe]; exact Or.inr h
  have hS : va_S A s.heap s.heap [] := va_S.rf
  have hl := lv_entry ([.ref h, .int v1, .int v2]) (n := 3) (Nat.le_of_ble_eq_true rfl)
  rw [lg_entry_eq]
  generalize (lg_sl ([.ref h, .int v1, .int v2]) ++ List.replicate (3 - (lg_sl ([.ref h, .int v1, .int v2])).length) Slot.unset).toArray = ls at hl ⊢
  have hl : lv_has ls 3 [(0, .ref h), (1, .int v1), (2, .int v2)] := hl
  rw [m_Model_newWord] at hm
  refine lv_aload_n hx hb d_Model_newWord_0 rfl (lv_at hl 0 rfl) ?_
  refine va_get (D := (dC, dI)) (ci := 12) (v := .ref ((v 3))) (C := R_Model) (T := F_Model) (N := 127) hx hb htt iw_Model hown hK hP 0 yo_12 rfl 3 (Nat.le_of_ble_eq_true rfl) (htt _ lk_Model_15) (fun _ h9 => h9) yg_3 d_Model_newWord_1 ?_
  refine lv_aload_n hx hb d_Model_newWord_4 rfl (lv_at hl 0 rfl) ?_
  refine va_get (D := (dC, dI)) (ci := 12) (v := .int (i 19)) (C := R_Model) (T := F_Model) (N := 127) hx hb htt iw_Model hown hK hP 0 yo_12 rfl 19 (Nat.le_of_ble_eq_true rfl) (htt _ lk_Model_19) (fun _ h9 => h9) yg_19 d_Model_newWord_5 ?_
  refine lv_iload_n hx hb d_Model_newWord_8 rfl (lv_at hl 1 rfl) ?_
  obtain ⟨h_1, hm⟩ := ck_some hm
  refine va_iast hx hb hK hP hD hS 3 0 ya_3 rfl h_1 d_Model_newWord_9 (fun H locs hP hD hS => ?_)
  obtain ⟨a_2, ea_2⟩ : ∃ y9 : Nat → Nat → Int32, y9 = sv a 3 (i 19).toNatClampNeg v1 := ⟨_, rfl⟩
  replace hm := ob1_at ea_2 hm
  obtain ⟨hP, hD⟩ := yv_3 ea_2 hP hD
  refine lv_aload_n hx hb d_Model_newWord_10 rfl (lv_at hl 0 rfl) ?_
  refine va_get (D := (dC, dI)) (ci := 12) (v := .ref ((v 4))) (C := R_Model) (T := F_Model) (N := 127) hx hb htt iw_Model hown hK hP 0 yo_12 rfl 4 (Nat.le_of_ble_eq_true rfl) (htt _ lk_Model_22) (fun _ h9 => h9) yg_4 d_Model_newWord_11 ?_
  refine lv_aload_n hx hb d_Model_newWord_14 rfl (lv_at hl 0 rfl) ?_
  refine va_get (D := (dC, dI)) (ci := 12) (v := .int (i 19)) (C := R_Model) (T := F_Model) (N := 127) hx hb htt iw_Model hown hK hP 0 yo_12 rfl 19 (Nat.le_of_ble_eq_true rfl) (htt _ lk_Model_19) (fun _ h9 => h9) yg_19 d_Model_newWord_15 ?_
  refine lv_iload_n hx hb d_Model_newWord_18 rfl (lv_at hl 2 rfl) ?_
  obtain ⟨h_3, hm⟩ := ck_some hm
  refine va_iast hx hb hK hP hD hS 4 0 ya_4 rfl h_3 d_Model_newWord_19 (fun H locs hP hD hS => ?_)
  obtain ⟨a_4, ea_4⟩ : ∃ y9 : Nat → Nat → Int32, y9 = sv a_2 4 (i 19).toNatClampNeg v2 := ⟨_, rfl⟩
  replace hm := ob1_at ea_4 hm
  obtain ⟨hP, hD⟩ := yv_4 ea_4 hP hD
  refine lv_aload_n hx hb d_Model_newWord_20 rfl (lv_at hl 0 rfl) ?_
  refine va_get (D := (dC, dI)) (ci := 12) (v := .ref ((v 7))) (C := R_Model) (T := F_Model) (N := 127) hx hb htt iw_Model hown hK hP 0 yo_12 rfl 7 (Nat.le_of_ble_eq_true rfl) (htt _ lk_Model_25) (fun _ h9 => h9) yg_7 d_Model_newWord_21 ?_
  refine lv_aload_n hx hb d_Model_newWord_24 rfl (lv_at hl 0 rfl) ?_
  refine va_get (D := (dC, dI)) (ci := 12) (v := .int (i 19)) (C := R_Model) (T := F_Model) (N := 127) hx hb htt iw_Model hown hK hP 0 yo_12 rfl 19 (Nat.le_of_ble_eq_true rfl) (htt _ lk_Model_19) (fun _ h9 => h9) yg_19 d_Model_newWord_25 ?_
  refine lv_iconst (v := 0) hx hb d_Model_newWord_28 (by decide) ?_
  obtain ⟨h_5, hm⟩ := ck_some hm
  refine va_iast hx hb hK hP hD hS 7 0 ya_7 rfl h_5 d_Model_newWord_29 (fun H locs hP hD hS => ?_)
  obtain ⟨a_6, ea_6⟩ : ∃ y9 : Nat → Nat → Int32, y9 = sv a_4 7 (i 19).toNatClampNeg 0 := ⟨_, rfl⟩
  replace hm := ob1_at ea_6 hm
  obtain ⟨hP, hD⟩ := yv_7 ea_6 hP hD
  refine lv_aload_n hx hb d_Model_newWord_30 rfl (lv_at hl 0 rfl) ?_
  refine va_get (D := (dC, dI)) (ci := 12) (v := .ref ((v 9))) (C := R_Model) (T := F_Model) (N := 127) hx hb htt iw_Model hown hK hP 0 yo_12 rfl 9 (Nat.le_of_ble_eq_true rfl) (htt _ lk_Model_28) (fun _ h9 => h9) yg_9 d_Model_newWord_31 ?_
  refine lv_aload_n hx hb d_Model_newWord_34 rfl (lv_at hl 0 rfl) ?_
  refine va_get (D := (dC, dI)) (ci := 12) (v := .int (i 19)) (C := R_Model) (T := F_Model) (N := 127) hx hb htt iw_Model hown hK hP 0 yo_12 rfl 19 (Nat.le_of_ble_eq_true rfl) (htt _ lk_Model_19) (fun _ h9 => h9) yg_19 d_Model_newWord_35 ?_
  refine lv_ldc2 (v := 3) hx hb hown (htt _ lk_Model_7) d_Model_newWord_38 ?_
  obtain ⟨h_7, hm⟩ := ck_some hm
  refine va_last hx hb hK hP hD hS 9 1 ya_9 rfl h_7 d_Model_newWord_41 (fun H locs hP hD hS => ?_)
  obtain ⟨b_8, eb_8⟩ : ∃ y9 : Nat → Nat → Int64, y9 = svl b 9 (i 19).toNatClampNeg 3 := ⟨_, rfl⟩
  replace hm := ob1_at eb_8 hm
  obtain ⟨hP, hD⟩ := yv_9 eb_8 hP hD
  refine lv_aload_n hx hb d_Model_newWord_42 rfl (lv_at hl 0 rfl) ?_
  refine lv_dup hx hb d_Model_newWord_43 rfl ?_
  refine va_get (D := (dC, dI)) (ci := 12) (v := .int (i 19)) (C := R_Model) (T := F_Model) (N := 127) hx hb htt iw_Model hown hK hP 0 yo_12 rfl 19 (Nat.le_of_ble_eq_true rfl) (htt _ lk_Model_19) (fun _ h9 => h9) yg_19 d_Model_newWord_44 ?_
  refine lv_iconst (v := 1) hx hb d_Model_newWord_47 (by decide) ?_
  refine lv_iadd hx hb d_Model_newWord_48 ?_
  refine lv_topi (fun x_9 ex_9 => ?_)
  replace hm := ob1_at ex_9 hm
  refine va_put (D := (dC, dI)) (ci := 12) (v := .int x_9) (ty := .int) (C := R_Model) (T := F_Model) (N := 127) hx hb htt iw_Model t_Model t_Model_ok n_Model hown hK hP hD hS 0 yo_12 rfl 19 (Nat.le_of_ble_eq_true rfl) (htt _ lk_Model_19) (fun _ h9 => h9) rfl (by decide +kernel) rfl rfl yl_19 d_Model_newWord_49 (fun H locs hP hD hS => ?_)
  obtain ⟨i_10, ei_10⟩ : ∃ y9 : Nat → Int32, y9 = upd i 19 x_9 := ⟨_, rfl⟩
  replace hm := ob1_at ei_10 hm
  obtain ⟨hP, hD⟩ := yw_19 ei_10 hP hD
  refine lv_aload_n hx hb d_Model_newWord_52 rfl (lv_at hl 0 rfl) ?_
  refine va_get (D := (dC, dI)) (ci := 12) (v := .int (i_10 19)) (C := R_Model) (T := F_Model) (N := 127) hx hb htt iw_Model hown hK hP 0 yo_12 rfl 19 (Nat.le_of_ble_eq_true rfl) (htt _ lk_Model_19) (fun _ h9 => h9) yg_19 d_Model_newWord_53 ?_
  refine lv_iconst (v := 1) hx hb d_Model_newWord_56 (by decide) ?_
  refine lv_isub hx hb d_Model_newWord_57 ?_
  obtain ⟨e1i, e1j, e1a, e1b, e3⟩ := re4m hm
  obtain ⟨hP, hD⟩ := y_eq e1i e1j e1a e1b hP hD
  exact W.iret hx hb hr (fun t9 ht hW => ⟨⟨_, (), rfl, e3.symm, by rw [ht]; exact hP, hD⟩, hS.F ht⟩) hS.2.2 d_Model_newWord_58

def m_Model_wordValue (n : Nat) (v0 : Int32) : Option (Int64) := some ((v0.toInt64 <<< ((2 : Int32).toInt64 &&& 63)) ||| 1)
set_option maxHeartbeats 4000000 in
set_option maxRecDepth 100000 in
theorem x_Model_wordValue (l : Launch) (sz : Nat) (n : Nat) {v0 : Int32} {r2 : Int64} (hm : m_Model_wordValue n v0 = some r2) : Met l y_Model_wordValue w_Model_wordValue ({ frames := 0, cells := 0, slots := 0, locals := 0 } : Room) (va_Pc [.int v0] (xE0 sz)) (va_Ql (xR r2) xT (xN sz)) 0 0 (xN sz) := by
  refine Met.ofW (cc := b_Model_wordValue) (maxL := 1) (ret := (some .long)) (by decide) rfl ?_
  intro p e s m args below meth c s₁ B hml hv
  obtain ⟨rfl, hsz⟩ := hv
  have hx := B.exec
  have hb := B.bytes
  have hr := B.returns
  have hts := atoms_spec (ws := w_Model_wordValue) B.pre
  have htt : ∀ w ∈ tw_T, w.before _ s = true := fun w h => hts w (List.mem_cons_of_mem _ h)
  have hown : s.vm.findClass R_Model = some m.cls := findClass_of_methodNamed B.named
  have hlocks := B.notSynchronized
  subst hsz
  generalize hAe : xN s.heap.size = A
  have hA : ∀ q : Nat, s.heap.size ≤ q → A q := fun q h => by rw [← hAe]; exact Or.inr h
  have hS : va_S A s.heap s.heap [] := va_S.rf
  have hl := lv_entry ([.int v0]) (n := 1) (Nat.le_of_ble_eq_true rfl)
  rw [lg_entry_eq]
  generalize (lg_sl ([.int v0]) ++ List.replicate (1 - (lg_sl ([.int v0])).length) Slot.unset).toArray = ls at hl ⊢
  have hl : lv_has ls 1 [(0, .int v0)] := hl
  rw [m_Model_wordValue] at hm
  refine lv_iload_n hx hb d_Model_wordValue_0 rfl (lv_at hl 0 rfl) ?_
  refine lv_i2l hx hb d_Model_wordValue_1 rfl ?_
  refine lv_iconst (v := 2) hx hb d_Model_wordValue_2 (by decide) ?_
  refine lv_lshl hx hb d_Model_wordValue_3 rfl ?_
  refine lv_lconst (v := 1) hx hb d_Model_wordValue_4 (by decide) ?_
  refine lv_lor hx hb d_Model_wordValue_5 ?_
  have e3 := re1 hm
  exact W.lret hx hb hr (fun t9 ht hW => ⟨⟨_, (), rfl, e3.symm, trivial⟩, hS.F ht⟩) hS.2.2 d_Model_wordValue_6

def m_Model_kindOf (n : Nat) (v0 : Int64) : Option (Int32) := some ((v0 &&& 3).toInt32)
set_option maxHeartbeats 4000000 in
set_option maxRecDepth 100000 in
theorem x_Model_kindOf (l : Launch) (sz : Nat) (n : Nat) {v0 : Int64} {r2 : Int32} (hm : m_Model_kindOf n v0 = some r2) : Met l y_Model_kindOf w_Model_kindOf ({ frames := 0, cells := 0, slots := 0, locals := 0 } : Room) (va_Pc [.long v0] (xE0 sz)) (va_Qi (xR r2) xT (xN sz)) 0 0 (xN sz) := by
  refine Met.ofW (cc := b_Model_kindOf) (maxL := 2) (ret := (some .int)) (by decide) rfl ?_
  intro p e s m args below meth c s₁ B hml hv
  obtain ⟨rfl, hsz⟩ := hv
  have hx := B.exec
  have hb := B.bytes
  have hr := B.returns
  have hts := atoms_spec (ws := w_Model_kindOf) B.pre
  have htt : ∀ w ∈ tw_T, w.before _ s = true := fun w h => hts w (List.mem_cons_of_mem _ h)
  have hown : s.vm.findClass R_Model = some m.cls := findClass_of_methodNamed B.named
  have hlocks := B.notSynchronized
  subst hsz
  generalize hAe : xN s.heap.size = A
  have hA : ∀ q : Nat, s.heap.size ≤ q → A q := fun q h => by rw [← hAe]; exact Or.inr h
  have hS : va_S A s.heap s.heap [] := va_S.rf
  have hl := lv_entry ([.long v0]) (n := 2) (Nat.le_of_ble_eq_true rfl)
  rw [lg_entry_eq]
  generalize (lg_sl ([.long v0]) ++ List.replicate (2 - (lg_sl ([.long v0])).length) Slot.unset).toArray = ls at hl ⊢
  have hl : lv_has ls 2 [(0, .long v0)] := hl
  rw [m_Model_kindOf] at hm
  refine lv_lload_n hx hb d_Model_kindOf_0 rfl (lv_at hl 0 rfl) ?_
  refine lv_ldc2 (v := 3) hx hb hown (htt _ lk_Model_7) d_Model_kindOf_1 ?_
  refine lv_land hx hb d_Model_kindOf_4 ?_
  refine lv_l2i hx hb d_Model_kindOf_5 rfl ?_
  have e3 := re1 hm
  exact W.iret hx hb hr (fun t9 ht hW => ⟨⟨_, (), rfl, e3.symm, trivial⟩, hS.F ht⟩) hS.2.2 d_Model_kindOf_6

def m_Model_what (n : Nat) (v0 : Int64) : Option (Int32) := some ((v0 >>> ((2 : Int32).toInt64 &&& 63)).toInt32)
set_option maxHeartbeats 4000000 in
set_option maxRecDepth 100000 in
theorem x_Model_what (l : Launch) (sz : Nat) (n : Nat) {v0 : Int64} {r2 : Int32} (hm : m_Model_what n v0 = some r2) : Met l y_Model_what w_Model_what ({ frames := 0, cells := 0, slots := 0, locals := 0 } : Room) (va_Pc [.long v0] (xE0 sz)) (va_Qi (xR r2) xT (xN sz)) 0 0 (xN sz) := by
  refine Met.ofW (cc := b_Model_what) (maxL := 2) (ret := (some .int)) (by decide) rfl ?_
  intro p e s m args below meth c s₁ B hml hv
  obtain ⟨rfl, hsz⟩ := hv
  have hx := B.exec
  have hb := B.bytes
  have hr := B.returns
  have hts := atoms_spec (ws := w_Model_what) B.pre
  have htt : ∀ w ∈ tw_T, w.before _ s = true := fun w h => hts w (List.mem_cons_of_mem _ h)
  have hown : s.vm.findClass R_Model = some m.cls := findClass_of_methodNamed B.named
  have hlocks := B.notSynchronized
  subst hsz
  generalize hAe : xN s.heap.size = A
  have hA : ∀ q : Nat, s.heap.size ≤ q → A q := fun q h => by rw [← hAe]; exact Or.inr h
  have hS : va_S A s.heap s.heap [] := va_S.rf
  have hl := lv_entry ([.long v0]) (n := 2) (Nat.le_of_ble_eq_true rfl)
  rw [lg_entry_eq]
  generalize (lg_sl ([.long v0]) ++ List.replicate (2 - (lg_sl ([.long v0])).length) Slot.unset).toArray = ls at hl ⊢
  have hl : lv_has ls 2 [(0, .long v0)] := hl
  rw [m_Model_what] at hm
  refine lv_lload_n hx hb d_Model_what_0 rfl (lv_at hl 0 rfl) ?_
  refine lv_iconst (v := 2) hx hb d_Model_what_1 (by decide) ?_
  refine lv_lshr hx hb d_Model_what_2 rfl ?_
  refine lv_l2i hx hb d_Model_what_3 rfl ?_
  have e3 := re1 hm
  exact W.iret hx hb hr (fun t9 ht hW => ⟨⟨_, (), rfl, e3.symm, trivial⟩, hS.F ht⟩) hS.2.2 d_Model_what_4

def m_Model_isText_b17 (n : Nat) (i : Nat → Int32) (j : Nat → Int64) (a : Nat → Nat → Int32) (b : Nat → Nat → Int64) : Nat → Int32 → Nat → Int32 → Option (Int32)
  | 0, _, _, _ => none
  | f + 1, v1, t2, v3 => ct t2 (if ((nI (tw_len.getD t2 0))) ≤ v3 then some 1 else ck v1 120000 (ck (((a 3 v1.toNatClampNeg) + v3)) 300000 (cs v3 (tw_len.getD t2 0) (if ((a 1 ((a 3 v1.toNatClampNeg) + v3).toNatClampNeg)) = ((tw_bt t2 v3.toNatClampNeg &&& 255)) then ob1 (v3 + 1 : Int32) (fun x_6 => m_Model_isText_b17 n i j a b f v1 t2 x_6) else some 0))))
set_option maxHeartbeats 4000000 in
set_option maxRecDepth 100000 in
theorem lb_Model_isText_17 (l : Launch) (dC : Nat → ClassId) (dI : Nat → Nat → Nat) (cI cJ cB : ClassId) (adK adV adA : Nat → Nat) (h : Nat) (v : Nat → Nat) (n : Nat) {p : Program} {e : Env} {s : State} {m : MethodId} {args : Array Value} {below : List Frame} {meth : Method} {c : Code} {A : Nat → Prop} (hx : p.tables.exec = Jvm.exec) (hb : c.code = b_Model_isText) (hml : c.maxLocals = 4) (hown : s.vm.findClass R_Model = some m.cls) (hts : ∀ w ∈ w_Model_isText, w.before args s = true) (hK : va_K (dC, dI) classes [(cI, .int), (cJ, .long), (cB, .byte)] s) (hE : tw_E adK adV adA A s s.heap) (hA : ∀ q : Nat, s.heap.size ≤ q → A q) (hr : meth.sig.returnType = (some .boolean)) (hlocks : meth.locks = false) {i : Nat → Int32} {j : Nat → Int64} {a : Nat → Nat → Int32} {b : Nat → Nat → Int64} {r2 : Int32} : ∀ (f : Nat) (v1 : Int32) (t2 : Nat) (v3 : Int32), m_Model_isText_b17 n i j a b f v1 t2 v3 = some r2 → ∀ (H : Heap) (locs : List Loc) (ls : Array Slot), va_P (dC, dI) classes (MW cI cJ cB h v i j a b) H → va_S A s.heap H locs → lv_has ls 4 [(0, .ref h), (1, .int v1), (2, .ref ((adK t2))), (3, .int v3)] → W p l e ({ frames := 4, cells := 0, slots := 0, locals := 85 } : Room) s m args below meth c H locs 0 0 (MQ below (va_Qi (xR r2) xT A) args s 0 0 A) (F0 m 17 ls []) := by
  have htt : ∀ w ∈ tw_T, w.before _ s = true := fun w h => hts w (List.mem_cons_of_mem _ h)
  intro f
  induction f with
  | zero =>
    intro v1 t2 v3 hm
    rw [m_Model_isText_b17] at hm
    cases hm
  | succ f ih =>
    intro v1 t2 v3 hm H locs ls hP hS hl
    rw [m_Model_isText_b17] at hm
    obtain ⟨ht2, hm⟩ := ct_some hm
    refine lv_iload_n hx hb d_Model_isText_17 rfl (lv_at hl 3 rfl) ?_
    refine lv_aload_n hx hb d_Model_isText_18 rfl (lv_at hl 2 rfl) ?_
    have hFc := x_free0 hS hA
    refine va_calli (va_runV (As := []) (rest := [.int v3]) ⟨hx, hb, hml, hown, hts⟩ (c_String_length l dC dI H.size (adK t2) (adV t2) (tw_len.getD t2 0) (tw_bt t2)) (cwV 0 hts (tw_GV tw_cons cw_String_length lk_Model_75 in_String_length sel_String_length ini_String) rfl rfl rfl ⟨rfl, hd_String_length⟩ ⟨Nat.le_of_ble_eq_true rfl, Nat.le_of_ble_eq_true rfl⟩) (ypStr hK hS (hE.str t2 ht2) hFc) rfl rfl hl.1 rfl (lv_room (Nat.le_of_ble_eq_true rfl)) d_Model_isText_19 ⟨Nat.le_of_ble_eq_true rfl, Nat.le_of_ble_eq_true rfl⟩) hS (fun q _ h => hFc q h) hFc (fun r9 u9 t9 H locs ht hvm e9 hB hz1 hk1 hS => ?_)
    have e9 : r9 = nI (tw_len.getD t2 0) := e9
    subst e9
    replace hP := x_keep hP hk1
    clear hFc hk1 hz1 hvm hB ht
    refine lv_icmp_ge (tgt := 54) hx hb d_Model_isText_22 (by decide) (fun c_1 => ?_) (fun c_1 => ?_)
    · replace hm := if_t c_1 hm
      refine lv_iconst (v := 1) hx hb d_Model_isText_54 (by decide) ?_
      have e3 := re1 hm
      exact W.zret hx hb hr (by decide) (fun t9 ht hW => ⟨⟨_, (), rfl, e3.symm, trivial⟩, hS.F ht⟩) hS.2.2 d_Model_isText_55
    · replace hm := if_f c_1 hm
      refine lv_aload_n hx hb d_Model_isText_25 rfl (lv_at hl 0 rfl) ?_
      refine va_get (D := (dC, dI)) (ci := 12) (v := .ref ((v 1))) (C := R_Model) (T := F_Model) (N := 127) hx hb htt iw_Model hown hK hP 0 yo_12 rfl 1 (Nat.le_of_ble_eq_true rfl) (htt _ lk_Model_67) (fun _ h9 => h9) yg_1 d_Model_isText_26 ?_
      refine lv_aload_n hx hb d_Model_isText_29 rfl (lv_at hl 0 rfl) ?_
      refine va_get (D := (dC, dI)) (ci := 12) (v := .ref ((v 3))) (C := R_Model) (T := F_Model) (N := 127) hx hb htt iw_Model hown hK hP 0 yo_12 rfl 3 (Nat.le_of_ble_eq_true rfl) (htt _ lk_Model_15) (fun _ h9 => h9) yg_3 d_Model_isText_30 ?_
      refine lv_iload_n hx hb d_Model_isText_33 rfl (lv_at hl 1 rfl) ?_
      obtain ⟨h_2, hm⟩ := ck_some hm
      refine va_iald hx hb hK hP 3 0 ya_3 rfl h_2 d_Model_isText_34 ?_
      refine lv_iload_n hx hb d_Model_isText_35 rfl (lv_at hl 3 rfl) ?_
      refine lv_iadd hx hb d_Model_isText_36 ?_
      obtain ⟨h_3, hm⟩ := ck_some hm
      refine va_bald hx hb hK hP 1 2 ya_1 rfl h_3 d_Model_isText_37 ?_
      refine lv_aload_n hx hb d_Model_isText_38 rfl (lv_at hl 2 rfl) ?_
      refine lv_iload_n hx hb d_Model_isText_39 rfl (lv_at hl 3 rfl) ?_
      have hFc := x_free0 hS hA
      obtain ⟨h_4a, h_4b, hm⟩ := cs_some hm
      refine va_calli (va_runV (As := [.int v3]) (rest := [.int (a 1 ((a 3 v1.toNatClampNeg) + v3).toNatClampNeg)]) ⟨hx, hb, hml, hown, hts⟩ (c_String_charAt l dC dI H.size (adK t2) (adV t2) (tw_len.getD t2 0) (tw_bt t2) v3 h_4a h_4b) (cwV 1 hts (tw_GV tw_cons cw_String_charAt lk_Model_81 in_String_charAt sel_String_charAt ini_String) rfl rfl rfl ⟨rfl, hd_String_charAt⟩ ⟨Nat.le_of_ble_eq_true rfl, Nat.le_of_ble_eq_true rfl⟩) (ypStr hK hS (hE.str t2 ht2) hFc) rfl rfl hl.1 rfl (lv_room (Nat.le_of_ble_eq_true rfl)) d_Model_isText_40 ⟨Nat.le_of_ble_eq_true rfl, Nat.le_of_ble_eq_true rfl⟩) hS (fun q _ h => hFc q h) hFc (fun r9 u9 t9 H locs ht hvm e9 hB hz1 hk1 hS => ?_)
      have e9 : r9 = tw_bt t2 v3.toNatClampNeg &&& 255 := e9
      subst e9
      replace hP := x_keep hP hk1
      clear hFc hk1 hz1 hvm hB ht
      refine lv_icmp_eq (tgt := 48) hx hb d_Model_isText_43 (by decide) (fun c_5 => ?_) (fun c_5 => ?_)
      · replace hm := if_t c_5 hm
        obtain ⟨x_6, ex_6⟩ : ∃ y9 : Int32, y9 = v3 + 1 := ⟨_, rfl⟩
        replace hm := ob1_at ex_6 hm
        refine lv_iinc (v := x_6) (lv' := [(3, .int x_6), (0, .ref h), (1, .int v1), (2, .ref ((adK t2)))]) hx hb d_Model_isText_48 hl (k := 3) rfl (by rw [ex_6]; rfl) (by decide) rfl (fun ls hl => ?_)
        refine lv_goto (tgt := 17) hx hb d_Model_isText_51 (by decide) ?_
        exact ih _ _ _ hm _ _ _ hP hS (lv_sub hl [1, 2, 3, 0] rfl)
      · replace hm := if_f c_5 hm
        refine lv_iconst (v := 0) hx hb d_Model_isText_46 (by decide) ?_
        have e3 := re1 hm
        exact W.zret hx hb hr (by decide) (fun t9 ht hW => ⟨⟨_, (), rfl, e3.symm, trivial⟩, hS.F ht⟩) hS.2.2 d_Model_isText_47
def m_Model_isText (n : Nat) (i : Nat → Int32) (j : Nat → Int64) (a : Nat → Nat → Int32) (b : Nat → Nat → Int64) (v1 : Int32) (t2 : Nat) : Option (Int32) := ct t2 (ck v1 120000 (if ((a 4 v1.toNatClampNeg)) = ((nI (tw_len.getD t2 0))) then m_Model_isText_b17 n i j a b n v1 t2 (0 : Int32) else some 0))
set_option maxHeartbeats 4000000 in
set_option maxRecDepth 100000 in
theorem x_Model_isText (l : Launch) (dC : Nat → ClassId) (dI : Nat → Nat → Nat) (cI cJ cB : ClassId) (adK adV adA : Nat → Nat) (h : Nat) (v : Nat → Nat) (sz : Nat) (n : Nat) {i : Nat → Int32} {j : Nat → Int64} {a : Nat → Nat → Int32} {b : Nat → Nat → Int64} {v1 : Int32} {t2 : Nat} {r2 : Int32} (hm : m_Model_isText n i j a b v1 t2 = some r2) : Met l y_Model_isText w_Model_isText ({ frames := 4, cells := 0, slots := 0, locals := 85 } : Room) (va_Pc [.ref h, .int v1, .ref ((adK t2))] (yEr dC dI cI cJ cB adK adV adA h v i j a b sz)) (va_Qi (xR r2) xT (xN sz)) 0 0 (xN sz) := by
  refine Met.ofW (cc := b_Model_isText) (maxL := 4) (ret := (some .boolean)) (by decide) rfl ?_
  intro p e s m args below meth c s₁ B hml hv
  obtain ⟨rfl, hsz, hP, hK, hE⟩ := hv
  have hx := B.exec
  have hb := B.bytes
  have hr := B.returns
  have hts := atoms_spec (ws := w_Model_isText) B.pre
  have htt : ∀ w ∈ tw_T, w.before _ s = true := fun w h => hts w (List.mem_cons_of_mem _ h)
  have hown : s.vm.findClass R_Model = some m.cls := findClass_of_methodNamed B.named
  have hlocks := B.notSynchronized
  subst hsz
  generalize hAe : xN s.heap.size = A at hE ⊢
  have hA : ∀ q : Nat, s.heap.size ≤ q → A q := fun q h => by rw [← hAe]; exact Or.inr h
  have hS : va_S A s.heap s.heap [] := va_S.rf
  have hl := lv_entry ([.ref h, .int v1, .ref ((adK t2))]) (n := 4) (Nat.le_of_ble_eq_true rfl)
  rw [lg_entry_eq]
  generalize (lg_sl ([.ref h, .int v1, .ref ((adK t2))]) ++ List.replicate (4 - (lg_sl ([.ref h, .int v1, .ref ((adK t2))])).length) Slot.unset).toArray = ls at hl ⊢
  have hl : lv_has ls 4 [(0, .ref h), (1, .int v1), (2, .ref ((adK t2)))] := hl
  rw [m_Model_isText] at hm
  obtain ⟨ht2, hm⟩ := ct_some hm
  refine lv_aload_n hx hb d_Model_isText_0 rfl (lv_at hl 0 rfl) ?_
  refine va_get (D := (dC, dI)) (ci := 12) (v := .ref ((v 4))) (C := R_Model) (T := F_Model) (N := 127) hx hb htt iw_Model hown hK hP 0 yo_12 rfl 4 (Nat.le_of_ble_eq_true rfl) (htt _ lk_Model_22) (fun _ h9 => h9) yg_4 d_Model_isText_1 ?_
  refine lv_iload_n hx hb d_Model_isText_4 rfl (lv_at hl 1 rfl) ?_
  obtain ⟨h_1, hm⟩ := ck_some hm
  refine va_iald hx hb hK hP 4 0 ya_4 rfl h_1 d_Model_isText_5 ?_
  refine lv_aload_n hx hb d_Model_isText_6 rfl (lv_at hl 2 rfl) ?_
  have hFc := x_free0 hS hA
  refine va_calli (va_runV (As := []) (rest := [.int (a 4 v1.toNatClampNeg)]) ⟨hx, hb, hml, hown, hts⟩ (c_String_length l dC dI s.heap.size (adK t2) (adV t2) (tw_len.getD t2 0) (tw_bt t2)) (cwV 0 hts (tw_GV tw_cons cw_String_length lk_Model_75 in_String_length sel_String_length ini_String) rfl rfl rfl ⟨rfl, hd_String_length⟩ ⟨Nat.le_of_ble_eq_true rfl, Nat.le_of_ble_eq_true rfl⟩) (ypStr hK hS (hE.str t2 ht2) hFc) rfl rfl hl.1 rfl (lv_room (Nat.le_of_ble_eq_true rfl)) d_Model_isText_7 ⟨Nat.le_of_ble_eq_true rfl, Nat.le_of_ble_eq_true rfl⟩) hS (fun q _ h => hFc q h) hFc (fun r9 u9 t9 H locs ht hvm e9 hB hz1 hk1 hS => ?_)
  have e9 : r9 = nI (tw_len.getD t2 0) := e9
  subst e9
  replace hP := x_keep hP hk1
  clear hFc hk1 hz1 hvm hB ht
  refine lv_icmp_eq (tgt := 15) hx hb d_Model_isText_10 (by decide) (fun c_2 => ?_) (fun c_2 => ?_)
  · replace hm := if_t c_2 hm
    refine lv_iconst (v := 0) hx hb d_Model_isText_15 (by decide) ?_
    refine lv_istore_n (lv' := [(3, .int 0), (0, .ref h), (1, .int v1), (2, .ref ((adK t2)))]) hx hb d_Model_isText_16 rfl hl (by decide) rfl (fun ls hl => ?_)
    exact lb_Model_isText_17 l dC dI cI cJ cB adK adV adA h v n hx hb hml hown hts hK hE hA hr hlocks n _ _ _ hm _ _ _ hP hS (lv_sub hl [1, 2, 3, 0] rfl)
  · replace hm := if_f c_2 hm
    refine lv_iconst (v := 0) hx hb d_Model_isText_13 (by decide) ?_
    have e3 := re1 hm
    exact W.zret hx hb hr (by decide) (fun t9 ht hW => ⟨⟨_, (), rfl, e3.symm, trivial⟩, hS.F ht⟩) hS.2.2 d_Model_isText_14

def m_Model_primitive_b165 (n : Nat) (i : Nat → Int32) (j : Nat → Int64) (a : Nat → Nat → Int32) (b : Nat → Nat → Int64) (v1 : Int32) : Option ((Nat → Int32) × (Nat → Int64) × (Nat → Nat → Int32) × (Nat → Nat → Int64) × Int32) := ck v1 120000 (if ((0 : Int32)) ≤ (((a 7 v1.toNatClampNeg) - 2)) then ck v1 120000 (some (i, j, a, b, (a 7 v1.toNatClampNeg) - 2)) else some (i, j, a, b, (-1)))
set_option maxHeartbeats 4000000 in
set_option maxRecDepth 100000 in
theorem lb_Model_primitive_165 (l : Launch) (dC : Nat → ClassId) (dI : Nat → Nat → Nat) (cI cJ cB : ClassId) (adK adV adA : Nat → Nat) (h : Nat) (v : Nat → Nat) (n : Nat) {p : Program} {e : Env} {s : State} {m : MethodId} {args : Array Value} {below : List Frame} {meth : Method} {c : Code} {A : Nat → Prop} (hx : p.tables.exec = Jvm.exec) (hb : c.code = b_Model_primitive) (hml : c.maxLocals = 7) (hown : s.vm.findClass R_Model = some m.cls) (hts : ∀ w ∈ w_Model_primitive, w.before args s = true) (hK : va_K (dC, dI) classes [(cI, .int), (cJ, .long), (cB, .byte)] s) (hE : tw_E adK adV adA A s s.heap) (hA : ∀ q : Nat, s.heap.size ≤ q → A q) (hr : meth.sig.returnType = (some .int)) (hlocks : meth.locks = false) {i2 : Nat → Int32} {j2 : Nat → Int64} {a2 : Nat → Nat → Int32} {b2 : Nat → Nat → Int64} {r2 : Int32} (i : Nat → Int32) (j : Nat → Int64) (a : Nat → Nat → Int32) (b : Nat → Nat → Int64) (v1 : Int32) (hm : m_Model_primitive_b165 n i j a b v1 = some (i2, j2, a2, b2, r2)) : ∀ (H : Heap) (locs : List Loc) (ls : Array Slot), va_P (dC, dI) classes (MW cI cJ cB h v i j a b) H → va_D A (MW cI cJ cB h v i j a b) → va_S A s.heap H locs → lv_has ls 7 [(0, .ref h), (1, .int v1)] → W p l e ({ frames := 4, cells := 0, slots := 0, locals := 85 } : Room) s m args below meth c H locs 0 0 (MQ below (va_Qi (xR r2) (yB dC dI cI cJ cB h v i2 j2 a2 b2 A) A) args s 0 0 A) (F0 m 165 ls []) := by
  have htt : ∀ w ∈ tw_T, w.before _ s = true := fun w h => hts w (List.mem_cons_of_mem _ h)
  intro H locs ls hP hD hS hl
  rw [m_Model_primitive_b165] at hm
  refine lv_aload_n hx hb d_Model_primitive_165 rfl (lv_at hl 0 rfl) ?_
  refine va_get (D := (dC, dI)) (ci := 12) (v := .ref ((v 7))) (C := R_Model) (T := F_Model) (N := 127) hx hb htt iw_Model hown hK hP 0 yo_12 rfl 7 (Nat.le_of_ble_eq_true rfl) (htt _ lk_Model_25) (fun _ h9 => h9) yg_7 d_Model_primitive_166 ?_
  refine lv_iload_n hx hb d_Model_primitive_169 rfl (lv_at hl 1 rfl) ?_
  obtain ⟨h_1, hm⟩ := ck_some hm
  refine va_iald hx hb hK hP 7 0 ya_7 rfl h_1 d_Model_primitive_170 ?_
  refine lv_iconst (v := 2) hx hb d_Model_primitive_171 (by decide) ?_
  refine lv_isub hx hb d_Model_primitive_172 ?_
  refine lv_if_ge (tgt := 180) hx hb d_Model_primitive_173 (by decide) (fun c_2 => ?_) (fun c_2 => ?_)
  · replace hm := if_t c_2 hm
    refine lv_aload_n hx hb d_Model_primitive_180 rfl (lv_at hl 0 rfl) ?_
    refine va_get (D := (dC, dI)) (ci := 12) (v := .ref ((v 7))) (C := R_Model) (T := F_Model) (N := 127) hx hb htt iw_Model hown hK hP 0 yo_12 rfl 7 (Nat.le_of_ble_eq_true rfl) (htt _ lk_Model_25) (fun _ h9 => h9) yg_7 d_Model_primitive_181 ?_
    refine lv_iload_n hx hb d_Model_primitive_184 rfl (lv_at hl 1 rfl) ?_
    obtain ⟨h_3, hm⟩ := ck_some hm
    refine va_iald hx hb hK hP 7 0 ya_7 rfl h_3 d_Model_primitive_185 ?_
    refine lv_iconst (v := 2) hx hb d_Model_primitive_186 (by decide) ?_
    refine lv_isub hx hb d_Model_primitive_187 ?_
    obtain ⟨e1i, e1j, e1a, e1b, e3⟩ := re4m hm
    obtain ⟨hP, hD⟩ := y_eq e1i e1j e1a e1b hP hD
    exact W.iret hx hb hr (fun t9 ht hW => ⟨⟨_, (), rfl, e3.symm, by rw [ht]; exact hP, hD⟩, hS.F ht⟩) hS.2.2 d_Model_primitive_188
  · replace hm := if_f c_2 hm
    refine lv_iconst (v := -1) hx hb d_Model_primitive_176 (by decide) ?_
    refine lv_goto (tgt := 188) hx hb d_Model_primitive_177 (by decide) ?_
    obtain ⟨e1i, e1j, e1a, e1b, e3⟩ := re4m hm
    obtain ⟨hP, hD⟩ := y_eq e1i e1j e1a e1b hP hD
    exact W.iret hx hb hr (fun t9 ht hW => ⟨⟨_, (), rfl, e3.symm, by rw [ht]; exact hP, hD⟩, hS.F ht⟩) hS.2.2 d_Model_primitive_188
def m_Model_primitive_b153 (n : Nat) (rc_20 : (Nat → Int32) → (Nat → Int64) → (Nat → Nat → Int32) → (Nat → Nat → Int64) → Int32 → Int32 → Int32 → Option ((Nat → Int32) × (Nat → Int64) × (Nat → Nat → Int32) × (Nat → Nat → Int64) × Int32)) (i : Nat → Int32) (j : Nat → Int64) (a : Nat → Nat → Int32) (b : Nat → Nat → Int64) (v1 : Int32) (v2 : Int32) (v4 : Int32) (s0 : Int32) (s1 : Int32) : Option ((Nat → Int32) × (Nat → Int64) × (Nat → Nat → Int32) × (Nat → Nat → Int64) × Int32) := ck s1 120000 (ob1 (sv a 7 s1.toNatClampNeg s0 : Nat → Nat → Int32) (fun a_2 => ob1 (v4 + 1 : Int32) (fun x_3 => ob1 (v2 + 1 : Int32) (fun x_4 => rc_20 i j a_2 b v1 x_4 x_3))))
set_option maxHeartbeats 4000000 in
set_option maxRecDepth 100000 in
theorem lb_Model_primitive_153 (l : Launch) (dC : Nat → ClassId) (dI : Nat → Nat → Nat) (cI cJ cB : ClassId) (adK adV adA : Nat → Nat) (h : Nat) (v : Nat → Nat) (n : Nat) {p : Program} {e : Env} {s : State} {m : MethodId} {args : Array Value} {below : List Frame} {meth : Method} {c : Code} {A : Nat → Prop} (hx : p.tables.exec = Jvm.exec) (hb : c.code = b_Model_primitive) (hml : c.maxLocals = 7) (hown : s.vm.findClass R_Model = some m.cls) (hts : ∀ w ∈ w_Model_primitive, w.before args s = true) (hK : va_K (dC, dI) classes [(cI, .int), (cJ, .long), (cB, .byte)] s) (hE : tw_E adK adV adA A s s.heap) (hA : ∀ q : Nat, s.heap.size ≤ q → A q) (hr : meth.sig.returnType = (some .int)) (hlocks : meth.locks = false) {i2 : Nat → Int32} {j2 : Nat → Int64} {a2 : Nat → Nat → Int32} {b2 : Nat → Nat → Int64} {r2 : Int32} (rc_20 : (Nat → Int32) → (Nat → Int64) → (Nat → Nat → Int32) → (Nat → Nat → Int64) → Int32 → Int32 → Int32 → Option ((Nat → Int32) × (Nat → Int64) × (Nat → Nat → Int32) × (Nat → Nat → Int64) × Int32)) (Hrc_20 : ∀ (i : Nat → Int32) (j : Nat → Int64) (a : Nat → Nat → Int32) (b : Nat → Nat → Int64) (v1 : Int32) (v2 : Int32) (v3 : Int32), rc_20 i j a b v1 v2 v3 = some (i2, j2, a2, b2, r2) → ∀ (H : Heap) (locs : List Loc) (ls : Array Slot), va_P (dC, dI) classes (MW cI cJ cB h v i j a b) H → va_D A (MW cI cJ cB h v i j a b) → va_S A s.heap H locs → lv_has ls 7 [(0, .ref h), (1, .int v1), (2, .int v2), (3, .int v3)] → W p l e ({ frames := 4, cells := 0, slots := 0, locals := 85 } : Room) s m args below meth c H locs 0 0 (MQ below (va_Qi (xR r2) (yB dC dI cI cJ cB h v i2 j2 a2 b2 A) A) args s 0 0 A) (F0 m 20 ls [])) (i : Nat → Int32) (j : Nat → Int64) (a : Nat → Nat → Int32) (b : Nat → Nat → Int64) (v1 : Int32) (v2 : Int32) (v4 : Int32) (s0 : Int32) (s1 : Int32) (hm : m_Model_primitive_b153 n rc_20 i j a b v1 v2 v4 s0 s1 = some (i2, j2, a2, b2, r2)) : ∀ (H : Heap) (locs : List Loc) (ls : Array Slot), va_P (dC, dI) classes (MW cI cJ cB h v i j a b) H → va_D A (MW cI cJ cB h v i j a b) → va_S A s.heap H locs → lv_has ls 7 [(0, .ref h), (1, .int v1), (2, .int v2), (4, .int v4)] → W p l e ({ frames := 4, cells := 0, slots := 0, locals := 85 } : Room) s m args below meth c H locs 0 0 (MQ below (va_Qi (xR r2) (yB dC dI cI cJ cB h v i2 j2 a2 b2 A) A) args s 0 0 A) (F0 m 153 ls [.int s0, .int s1, .ref ((v 7))]) := by
  have htt : ∀ w ∈ tw_T, w.before _ s = true := fun w h => hts w (List.mem_cons_of_mem _ h)
  intro H locs ls hP hD hS hl
  rw [m_Model_primitive_b153] at hm
  obtain ⟨h_1, hm⟩ := ck_some hm
  refine va_iast hx hb hK hP hD hS 7 0 ya_7 rfl h_1 d_Model_primitive_153 (fun H locs hP hD hS => ?_)
  obtain ⟨a_2, ea_2⟩ : ∃ y9 : Nat → Nat → Int32, y9 = sv a 7 s1.toNatClampNeg s0 := ⟨_, rfl⟩
  replace hm := ob1_at ea_2 hm
  obtain ⟨hP, hD⟩ := yv_7 ea_2 hP hD
  refine lv_iload hx hb d_Model_primitive_154 (lv_at hl 3 rfl) ?_
  refine lv_iconst (v := 1) hx hb d_Model_primitive_156 (by decide) ?_
  refine lv_iadd hx hb d_Model_primitive_157 ?_
  refine lv_topi (fun x_3 ex_3 => ?_)
  replace hm := ob1_at ex_3 hm
  refine lv_istore_n (lv' := [(3, .int x_3), (0, .ref h), (1, .int v1), (2, .int v2), (4, .int v4)]) hx hb d_Model_primitive_158 rfl hl (by decide) rfl (fun ls hl => ?_)
  obtain ⟨x_4, ex_4⟩ : ∃ y9 : Int32, y9 = v2 + 1 := ⟨_, rfl⟩
  replace hm := ob1_at ex_4 hm
  refine lv_iinc (v := x_4) (lv' := [(2, .int x_4), (3, .int x_3), (0, .ref h), (1, .int v1), (4, .int v4)]) hx hb d_Model_primitive_159 hl (k := 3) rfl (by rw [ex_4]; rfl) (by decide) rfl (fun ls hl => ?_)
  refine lv_goto (tgt := 20) hx hb d_Model_primitive_162 (by decide) ?_
  exact Hrc_20 _ _ _ _ _ _ _ hm _ _ _ hP hD hS (lv_sub hl [2, 3, 0, 1] rfl)
def m_Model_primitive_b131 (n : Nat) (rc_20 : (Nat → Int32) → (Nat → Int64) → (Nat → Nat → Int32) → (Nat → Nat → Int64) → Int32 → Int32 → Int32 → Option ((Nat → Int32) × (Nat → Int64) × (Nat → Nat → Int32) × (Nat → Nat → Int64) × Int32)) (i : Nat → Int32) (j : Nat → Int64) (a : Nat → Nat → Int32) (b : Nat → Nat → Int64) (v1 : Int32) (v2 : Int32) (v4 : Int32) (v5 : Int32) : Option ((Nat → Int32) × (Nat → Int64) × (Nat → Nat → Int32) × (Nat → Nat → Int64) × Int32) := if v5 = ((0 : Int32)) then ck v1 120000 (m_Model_primitive_b153 n rc_20 i j a b v1 v2 v4 (a 7 v1.toNatClampNeg) v1) else m_Model_primitive_b153 n rc_20 i j a b v1 v2 v4 (v2 + 2) v1
set_option maxHeartbeats 4000000 in
set_option maxRecDepth 100000 in
theorem lb_Model_primitive_131 (l : Launch) (dC : Nat → ClassId) (dI : Nat → Nat → Nat) (cI cJ cB : ClassId) (adK adV adA : Nat → Nat) (h : Nat) (v : Nat → Nat) (n : Nat) {p : Program} {e : Env} {s : State} {m : MethodId} {args : Array Value} {below : List Frame} {meth : Method} {c : Code} {A : Nat → Prop} (hx : p.tables.exec = Jvm.exec) (hb : c.code = b_Model_primitive) (hml : c.maxLocals = 7) (hown : s.vm.findClass R_Model = some m.cls) (hts : ∀ w ∈ w_Model_primitive, w.before args s = true) (hK : va_K (dC, dI) classes [(cI, .int), (cJ, .long), (cB, .byte)] s) (hE : tw_E adK adV adA A s s.heap) (hA : ∀ q : Nat, s.heap.size ≤ q → A q) (hr : meth.sig.returnType = (some .int)) (hlocks : meth.locks = false) {i2 : Nat → Int32} {j2 : Nat → Int64} {a2 : Nat → Nat → Int32} {b2 : Nat → Nat → Int64} {r2 : Int32} (rc_20 : (Nat → Int32) → (Nat → Int64) → (Nat → Nat → Int32) → (Nat → Nat → Int64) → Int32 → Int32 → Int32 → Option ((Nat → Int32) × (Nat → Int64) × (Nat → Nat → Int32) × (Nat → Nat → Int64) × Int32)) (Hrc_20 : ∀ (i : Nat → Int32) (j : Nat → Int64) (a : Nat → Nat → Int32) (b : Nat → Nat → Int64) (v1 : Int32) (v2 : Int32) (v3 : Int32), rc_20 i j a b v1 v2 v3 = some (i2, j2, a2, b2, r2) → ∀ (H : Heap) (locs : List Loc) (ls : Array Slot), va_P (dC, dI) classes (MW cI cJ cB h v i j a b) H → va_D A (MW cI cJ cB h v i j a b) → va_S A s.heap H locs → lv_has ls 7 [(0, .ref h), (1, .int v1), (2, .int v2), (3, .int v3)] → W p l e ({ frames := 4, cells := 0, slots := 0, locals := 85 } : Room) s m args below meth c H locs 0 0 (MQ below (va_Qi (xR r2) (yB dC dI cI cJ cB h v i2 j2 a2 b2 A) A) args s 0 0 A) (F0 m 20 ls [])) (i : Nat → Int32) (j : Nat → Int64) (a : Nat → Nat → Int32) (b : Nat → Nat → Int64) (v1 : Int32) (v2 : Int32) (v4 : Int32) (v5 : Int32) (hm : m_Model_primitive_b131 n rc_20 i j a b v1 v2 v4 v5 = some (i2, j2, a2, b2, r2)) : ∀ (H : Heap) (locs : List Loc) (ls : Array Slot), va_P (dC, dI) classes (MW cI cJ cB h v i j a b) H → va_D A (MW cI cJ cB h v i j a b) → va_S A s.heap H locs → lv_has ls 7 [(0, .ref h), (1, .int v1), (2, .int v2), (4, .int v4), (5, .int v5)] → W p l e ({ frames := 4, cells := 0, slots := 0, locals := 85 } : Room) s m args below meth c H locs 0 0 (MQ below (va_Qi (xR r2) (yB dC dI cI cJ cB h v i2 j2 a2 b2 A) A) args s 0 0 A) (F0 m 131 ls []) := by
  have htt : ∀ w ∈ tw_T, w.before _ s = true := fun w h => hts w (List.mem_cons_of_mem _ h)
  intro H locs ls hP hD hS hl
  rw [m_Model_primitive_b131] at hm
  refine lv_aload_n hx hb d_Model_primitive_131 rfl (lv_at hl 0 rfl) ?_
  refine va_get (D := (dC, dI)) (ci := 12) (v := .ref ((v 7))) (C := R_Model) (T := F_Model) (N := 127) hx hb htt iw_Model hown hK hP 0 yo_12 rfl 7 (Nat.le_of_ble_eq_true rfl) (htt _ lk_Model_25) (fun _ h9 => h9) yg_7 d_Model_primitive_132 ?_
  refine lv_iload_n hx hb d_Model_primitive_135 rfl (lv_at hl 1 rfl) ?_
  refine lv_iload hx hb d_Model_primitive_136 (lv_at hl 4 rfl) ?_
  refine lv_if_eq (tgt := 147) hx hb d_Model_primitive_138 (by decide) (fun c_1 => ?_) (fun c_1 => ?_)
  · replace hm := if_t c_1 hm
    refine lv_aload_n hx hb d_Model_primitive_147 rfl (lv_at hl 0 rfl) ?_
    refine va_get (D := (dC, dI)) (ci := 12) (v := .ref ((v 7))) (C := R_Model) (T := F_Model) (N := 127) hx hb htt iw_Model hown hK hP 0 yo_12 rfl 7 (Nat.le_of_ble_eq_true rfl) (htt _ lk_Model_25) (fun _ h9 => h9) yg_7 d_Model_primitive_148 ?_
    refine lv_iload_n hx hb d_Model_primitive_151 rfl (lv_at hl 1 rfl) ?_
    obtain ⟨h_2, hm⟩ := ck_some hm
    refine va_iald hx hb hK hP 7 0 ya_7 rfl h_2 d_Model_primitive_152 ?_
    exact lb_Model_primitive_153 l dC dI cI cJ cB adK adV adA h v n hx hb hml hown hts hK hE hA hr hlocks rc_20 Hrc_20 _ _ _ _ _ _ _ _ _ hm _ _ _ hP hD hS (lv_sub hl [0, 1, 2, 3] rfl)
  · replace hm := if_f c_1 hm
    refine lv_iload_n hx hb d_Model_primitive_141 rfl (lv_at hl 2 rfl) ?_
    refine lv_iconst (v := 2) hx hb d_Model_primitive_142 (by decide) ?_
    refine lv_iadd hx hb d_Model_primitive_143 ?_
    refine lv_goto (tgt := 153) hx hb d_Model_primitive_144 (by decide) ?_
    exact lb_Model_primitive_153 l dC dI cI cJ cB adK adV adA h v n hx hb hml hown hts hK hE hA hr hlocks rc_20 Hrc_20 _ _ _ _ _ _ _ _ _ hm _ _ _ hP hD hS (lv_sub hl [0, 1, 2, 3] rfl)
def m_Model_primitive_b123 (n : Nat) (rc_20 : (Nat → Int32) → (Nat → Int64) → (Nat → Nat → Int32) → (Nat → Nat → Int64) → Int32 → Int32 → Int32 → Option ((Nat → Int32) × (Nat → Int64) × (Nat → Nat → Int32) × (Nat → Nat → Int64) × Int32)) (rc_75 : (Nat → Int32) → (Nat → Int64) → (Nat → Nat → Int32) → (Nat → Nat → Int64) → Int32 → Int32 → Int32 → Int32 → Int32 → Int32 → Option ((Nat → Int32) × (Nat → Int64) × (Nat → Nat → Int32) × (Nat → Nat → Int64) × Int32)) (i : Nat → Int32) (j : Nat → Int64) (a : Nat → Nat → Int32) (b : Nat → Nat → Int64) (v1 : Int32) (v2 : Int32) (v3 : Int32) (v4 : Int32) (v6 : Int32) (s0 : Int32) : Option ((Nat → Int32) × (Nat → Int64) × (Nat → Nat → Int32) × (Nat → Nat → Int64) × Int32) := ob1 (v6 + 1 : Int32) (fun x_1 => rc_75 i j a b v1 v2 v3 v4 s0 x_1)
set_option maxHeartbeats 4000000 in
set_option maxRecDepth 100000 in
theorem lb_Model_primitive_123 (l : Launch) (dC : Nat → ClassId) (dI : Nat → Nat → Nat) (cI cJ cB : ClassId) (adK adV adA : Nat → Nat) (h : Nat) (v : Nat → Nat) (n : Nat) {p : Program} {e : Env} {s : State} {m : MethodId} {args : Array Value} {below : List Frame} {meth : Method} {c : Code} {A : Nat → Prop} (hx : p.tables.exec = Jvm.exec) (hb : c.code = b_Model_primitive) (hml : c.maxLocals = 7) (hown : s.vm.findClass R_Model = some m.cls) (hts : ∀ w ∈ w_Model_primitive, w.before args s = true) (hK : va_K (dC, dI) classes [(cI, .int), (cJ, .long), (cB, .byte)] s) (hE : tw_E adK adV adA A s s.heap) (hA : ∀ q : Nat, s.heap.size ≤ q → A q) (hr : meth.sig.returnType = (some .int)) (hlocks : meth.locks = false) {i2 : Nat → Int32} {j2 : Nat → Int64} {a2 : Nat → Nat → Int32} {b2 : Nat → Nat → Int64} {r2 : Int32} (rc_20 : (Nat → Int32) → (Nat → Int64) → (Nat → Nat → Int32) → (Nat → Nat → Int64) → Int32 → Int32 → Int32 → Option ((Nat → Int32) × (Nat → Int64) × (Nat → Nat → Int32) × (Nat → Nat → Int64) × Int32)) (rc_75 : (Nat → Int32) → (Nat → Int64) → (Nat → Nat → Int32) → (Nat → Nat → Int64) → Int32 → Int32 → Int32 → Int32 → Int32 → Int32 → Option ((Nat → Int32) × (Nat → Int64) × (Nat → Nat → Int32) × (Nat → Nat → Int64) × Int32)) (Hrc_20 : ∀ (i : Nat → Int32) (j : Nat → Int64) (a : Nat → Nat → Int32) (b : Nat → Nat → Int64) (v1 : Int32) (v2 : Int32) (v3 : Int32), rc_20 i j a b v1 v2 v3 = some (i2, j2, a2, b2, r2) → ∀ (H : Heap) (locs : List Loc) (ls : Array Slot), va_P (dC, dI) classes (MW cI cJ cB h v i j a b) H → va_D A (MW cI cJ cB h v i j a b) → va_S A s.heap H locs → lv_has ls 7 [(0, .ref h), (1, .int v1), (2, .int v2), (3, .int v3)] → W p l e ({ frames := 4, cells := 0, slots := 0, locals := 85 } : Room) s m args below meth c H locs 0 0 (MQ below (va_Qi (xR r2) (yB dC dI cI cJ cB h v i2 j2 a2 b2 A) A) args s 0 0 A) (F0 m 20 ls [])) (Hrc_75 : ∀ (i : Nat → Int32) (j : Nat → Int64) (a : Nat → Nat → Int32) (b : Nat → Nat → Int64) (v1 : Int32) (v2 : Int32) (v3 : Int32) (v4 : Int32) (v5 : Int32) (v6 : Int32), rc_75 i j a b v1 v2 v3 v4 v5 v6 = some (i2, j2, a2, b2, r2) → ∀ (H : Heap) (locs : List Loc) (ls : Array Slot), va_P (dC, dI) classes (MW cI cJ cB h v i j a b) H → va_D A (MW cI cJ cB h v i j a b) → va_S A s.heap H locs → lv_has ls 7 [(0, .ref h), (1, .int v1), (2, .int v2), (3, .int v3), (4, .int v4), (5, .int v5), (6, .int v6)] → W p l e ({ frames := 4, cells := 0, slots := 0, locals := 85 } : Room) s m args below meth c H locs 0 0 (MQ below (va_Qi (xR r2) (yB dC dI cI cJ cB h v i2 j2 a2 b2 A) A) args s 0 0 A) (F0 m 75 ls [])) (i : Nat → Int32) (j : Nat → Int64) (a : Nat → Nat → Int32) (b : Nat → Nat → Int64) (v1 : Int32) (v2 : Int32) (v3 : Int32) (v4 : Int32) (v6 : Int32) (s0 : Int32) (hm : m_Model_primitive_b123 n rc_20 rc_75 i j a b v1 v2 v3 v4 v6 s0 = some (i2, j2, a2, b2, r2)) : ∀ (H : Heap) (locs : List Loc) (ls : Array Slot), va_P (dC, dI) classes (MW cI cJ cB h v i j a b) H → va_D A (MW cI cJ cB h v i j a b) → va_S A s.heap H locs → lv_has ls 7 [(0, .ref h), (1, .int v1), (2, .int v2), (3, .int v3), (4, .int v4), (6, .int v6)] → W p l e ({ frames := 4, cells := 0, slots := 0, locals := 85 } : Room) s m args below meth c H locs 0 0 (MQ below (va_Qi (xR r2) (yB dC dI cI cJ cB h v i2 j2 a2 b2 A) A) args s 0 0 A) (F0 m 123 ls [.int s0]) := by
  have htt : ∀ w ∈ tw_T, w.before _ s = true := fun w h => hts w (List.mem_cons_of_mem _ h)
  intro H locs ls hP hD hS hl
  rw [m_Model_primitive_b123] at hm
  refine lv_istore (lv' := [(5, .int s0), (0, .ref h), (1, .int v1), (2, .int v2), (3, .int v3), (4, .int v4), (6, .int v6)]) hx hb d_Model_primitive_123 hl (by decide) rfl (fun ls hl => ?_)
  obtain ⟨x_1, ex_1⟩ : ∃ y9 : Int32, y9 = v6 + 1 := ⟨_, rfl⟩
  replace hm := ob1_at ex_1 hm
  refine lv_iinc (v := x_1) (lv' := [(6, .int x_1), (5, .int s0), (0, .ref h), (1, .int v1), (2, .int v2), (3, .int v3), (4, .int v4)]) hx hb d_Model_primitive_125 hl (k := 6) rfl (by rw [ex_1]; rfl) (by decide) rfl (fun ls hl => ?_)
  refine lv_goto (tgt := 75) hx hb d_Model_primitive_128 (by decide) ?_
  exact Hrc_75 _ _ _ _ _ _ _ _ _ _ hm _ _ _ hP hD hS (lv_sub hl [2, 3, 4, 5, 6, 1, 0] rfl)
def m_Model_primitive_b75 (n : Nat) (rc_20 : (Nat → Int32) → (Nat → Int64) → (Nat → Nat → Int32) → (Nat → Nat → Int64) → Int32 → Int32 → Int32 → Option ((Nat → Int32) × (Nat → Int64) × (Nat → Nat → Int32) × (Nat → Nat → Int64) × Int32)) : Nat → (Nat → Int32) → (Nat → Int64) → (Nat → Nat → Int32) → (Nat → Nat → Int64) → Int32 → Int32 → Int32 → Int32 → Int32 → Int32 → Option ((Nat → Int32) × (Nat → Int64) × (Nat → Nat → Int32) × (Nat → Nat → Int64) × Int32)
  | 0, _, _, _, _, _, _, _, _, _, _ => none
  | f + 1, i, j, a, b, v1, v2, v3, v4, v5, v6 => if v5 = ((0 : Int32)) then m_Model_primitive_b131 n rc_20 i j a b v1 v2 v4 v5 else ck v1 120000 (if ((a 4 v1.toNatClampNeg)) ≤ v6 then m_Model_primitive_b131 n rc_20 i j a b v1 v2 v4 v5 else ck v1 120000 (ck (((a 3 v1.toNatClampNeg) + v6)) 300000 (cs (v3 + v6) (tw_len.getD 15 0) (if ((a 1 ((a 3 v1.toNatClampNeg) + v6).toNatClampNeg)) = ((tw_bt 15 (v3 + v6).toNatClampNeg &&& 255)) then m_Model_primitive_b123 n rc_20 (m_Model_primitive_b75 n rc_20 f) i j a b v1 v2 v3 v4 v6 (1 : Int32) else m_Model_primitive_b123 n rc_20 (m_Model_primitive_b75 n rc_20 f) i j a b v1 v2 v3 v4 v6 (0 : Int32)))))
set_option maxHeartbeats 4000000 in
set_option maxRecDepth 100000 in
theorem lb_Model_primitive_75 (l : Launch) (dC : Nat → ClassId) (dI : Nat → Nat → Nat) (cI cJ cB : ClassId) (adK adV adA : Nat → Nat) (h : Nat) (v : Nat → Nat) (n : Nat) {p : Program} {e : Env} {s : State} {m : MethodId} {args : Array Value} {below : List Frame} {meth : Method} {c : Code} {A : Nat → Prop} (hx : p.tables.exec = Jvm.exec) (hb : c.code = b_Model_primitive) (hml : c.maxLocals = 7) (hown : s.vm.findClass R_Model = some m.cls) (hts : ∀ w ∈ w_Model_primitive, w.before args s = true) (hK : va_K (dC, dI) classes [(cI, .int), (cJ, .long), (cB, .byte)] s) (hE : tw_E adK adV adA A s s.heap) (hA : ∀ q : Nat, s.heap.size ≤ q → A q) (hr : meth.sig.returnType = (some .int)) (hlocks : meth.locks = false) {i2 : Nat → Int32} {j2 : Nat → Int64} {a2 : Nat → Nat → Int32} {b2 : Nat → Nat → Int64} {r2 : Int32} (rc_20 : (Nat → Int32) → (Nat → Int64) → (Nat → Nat → Int32) → (Nat → Nat → Int64) → Int32 → Int32 → Int32 → Option ((Nat → Int32) × (Nat → Int64) × (Nat → Nat → Int32) × (Nat → Nat → Int64) × Int32)) (Hrc_20 : ∀ (i : Nat → Int32) (j : Nat → Int64) (a : Nat → Nat → Int32) (b : Nat → Nat → Int64) (v1 : Int32) (v2 : Int32) (v3 : Int32), rc_20 i j a b v1 v2 v3 = some (i2, j2, a2, b2, r2) → ∀ (H : Heap) (locs : List Loc) (ls : Array Slot), va_P (dC, dI) classes (MW cI cJ cB h v i j a b) H → va_D A (MW cI cJ cB h v i j a b) → va_S A s.heap H locs → lv_has ls 7 [(0, .ref h), (1, .int v1), (2, .int v2), (3, .int v3)] → W p l e ({ frames := 4, cells := 0, slots := 0, locals := 85 } : Room) s m args below meth c H locs 0 0 (MQ below (va_Qi (xR r2) (yB dC dI cI cJ cB h v i2 j2 a2 b2 A) A) args s 0 0 A) (F0 m 20 ls [])) : ∀ (f : Nat) (i : Nat → Int32) (j : Nat → Int64) (a : Nat → Nat → Int32) (b : Nat → Nat → Int64) (v1 : Int32) (v2 : Int32) (v3 : Int32) (v4 : Int32) (v5 : Int32) (v6 : Int32), m_Model_primitive_b75 n rc_20 f i j a b v1 v2 v3 v4 v5 v6 = some (i2, j2, a2, b2, r2) → ∀ (H : Heap) (locs : List Loc) (ls : Array Slot), va_P (dC, dI) classes (MW cI cJ cB h v i j a b) H → va_D A (MW cI cJ cB h v i j a b) → va_S A s.heap H locs → lv_has ls 7 [(0, .ref h), (1, .int v1), (2, .int v2), (3, .int v3), (4, .int v4), (5, .int v5), (6, .int v6)] → W p l e ({ frames := 4, cells := 0, slots := 0, locals := 85 } : Room) s m args below meth c H locs 0 0 (MQ below (va_Qi (xR r2) (yB dC dI cI cJ cB h v i2 j2 a2 b2 A) A) args s 0 0 A) (F0 m 75 ls []) := by
  have htt : ∀ w ∈ tw_T, w.before _ s = true := fun w h => hts w (List.mem_cons_of_mem _ h)
  intro f
  induction f with
  | zero =>
    intro i j a b v1 v2 v3 v4 v5 v6 hm
    rw [m_Model_primitive_b75] at hm
    cases hm
  | succ f ih =>
    intro i j a b v1 v2 v3 v4 v5 v6 hm H locs ls hP hD hS hl
    rw [m_Model_primitive_b75] at hm
    refine lv_iload hx hb d_Model_primitive_75 (lv_at hl 5 rfl) ?_
    refine lv_if_eq (tgt := 131) hx hb d_Model_primitive_77 (by decide) (fun c_1 => ?_) (fun c_1 => ?_)
    · replace hm := if_t c_1 hm
      exact lb_Model_primitive_131 l dC dI cI cJ cB adK adV adA h v n hx hb hml hown hts hK hE hA hr hlocks rc_20 Hrc_20 _ _ _ _ _ _ _ _ hm _ _ _ hP hD hS (lv_sub hl [0, 1, 2, 4, 5] rfl)
    · replace hm := if_f c_1 hm
      refine lv_iload hx hb d_Model_primitive_80 (lv_at hl 6 rfl) ?_
      refine lv_aload_n hx hb d_Model_primitive_82 rfl (lv_at hl 0 rfl) ?_
      refine va_get (D := (dC, dI)) (ci := 12) (v := .ref ((v 4))) (C := R_Model) (T := F_Model) (N := 127) hx hb htt iw_Model hown hK hP 0 yo_12 rfl 4 (Nat.le_of_ble_eq_true rfl) (htt _ lk_Model_22) (fun _ h9 => h9) yg_4 d_Model_primitive_83 ?_
      refine lv_iload_n hx hb d_Model_primitive_86 rfl (lv_at hl 1 rfl) ?_
      obtain ⟨h_2, hm⟩ := ck_some hm
      refine va_iald hx hb hK hP 4 0 ya_4 rfl h_2 d_Model_primitive_87 ?_
      refine lv_icmp_ge (tgt := 131) hx hb d_Model_primitive_88 (by decide) (fun c_3 => ?_) (fun c_3 => ?_)
      · replace hm := if_t c_3 hm
        exact lb_Model_primitive_131 l dC dI cI cJ cB adK adV adA h v n hx hb hml hown hts hK hE hA hr hlocks rc_20 Hrc_20 _ _ _ _ _ _ _ _ hm _ _ _ hP hD hS (lv_sub hl [0, 1, 2, 4, 5] rfl)
      · replace hm := if_f c_3 hm
        refine lv_aload_n hx hb d_Model_primitive_91 rfl (lv_at hl 0 rfl) ?_
        refine va_get (D := (dC, dI)) (ci := 12) (v := .ref ((v 1))) (C := R_Model) (T := F_Model) (N := 127) hx hb htt iw_Model hown hK hP 0 yo_12 rfl 1 (Nat.le_of_ble_eq_true rfl) (htt _ lk_Model_67) (fun _ h9 => h9) yg_1 d_Model_primitive_92 ?_
        refine lv_aload_n hx hb d_Model_primitive_95 rfl (lv_at hl 0 rfl) ?_
        refine va_get (D := (dC, dI)) (ci := 12) (v := .ref ((v 3))) (C := R_Model) (T := F_Model) (N := 127) hx hb htt iw_Model hown hK hP 0 yo_12 rfl 3 (Nat.le_of_ble_eq_true rfl) (htt _ lk_Model_15) (fun _ h9 => h9) yg_3 d_Model_primitive_96 ?_
        refine lv_iload_n hx hb d_Model_primitive_99 rfl (lv_at hl 1 rfl) ?_
        obtain ⟨h_4, hm⟩ := ck_some hm
        refine va_iald hx hb hK hP 3 0 ya_3 rfl h_4 d_Model_primitive_100 ?_
        refine lv_iload hx hb d_Model_primitive_101 (lv_at hl 6 rfl) ?_
        refine lv_iadd hx hb d_Model_primitive_103 ?_
        obtain ⟨h_5, hm⟩ := ck_some hm
        refine va_bald hx hb hK hP 1 2 ya_1 rfl h_5 d_Model_primitive_104 ?_
        refine tw_ldcwS hx hb hown (show vk_R "TurtleWorldModel" 668 _ (adK 15) s from hE.ref 15 (by decide)) d_Model_primitive_105 ?_
        refine lv_iload_n hx hb d_Model_primitive_108 rfl (lv_at hl 3 rfl) ?_
        refine lv_iload hx hb d_Model_primitive_109 (lv_at hl 6 rfl) ?_
        refine lv_iadd hx hb d_Model_primitive_111 ?_
        have hFc := x_free0 hS hA
        obtain ⟨h_6a, h_6b, hm⟩ := cs_some hm
        refine va_calli (va_runV (As := [.int (v3 + v6)]) (rest := [.int (a 1 ((a 3 v1.toNatClampNeg) + v6).toNatClampNeg)]) ⟨hx, hb, hml, hown, hts⟩ (c_String_charAt l dC dI H.size (adK 15) (adV 15) (tw_len.getD 15 0) (tw_bt 15) (v3 + v6) h_6a h_6b) (cwV 1 hts (tw_GV tw_cons cw_String_charAt lk_Model_81 in_String_charAt sel_String_charAt ini_String) rfl rfl rfl ⟨rfl, hd_String_charAt⟩ ⟨Nat.le_of_ble_eq_true rfl, Nat.le_of_ble_eq_true rfl⟩) (ypStr hK hS (hE.str 15 (by decide)) hFc) rfl rfl hl.1 rfl (lv_room (Nat.le_of_ble_eq_true rfl)) d_Model_primitive_112 ⟨Nat.le_of_ble_eq_true rfl, Nat.le_of_ble_eq_true rfl⟩) hS (fun q _ h => hFc q h) hFc (fun r9 u9 t9 H locs ht hvm e9 hB hz1 hk1 hS => ?_)
        have e9 : r9 = tw_bt 15 (v3 + v6).toNatClampNeg &&& 255 := e9
        subst e9
        replace hP := x_keep hP hk1
        clear hFc hk1 hz1 hvm hB ht
        refine lv_icmp_ne (tgt := 122) hx hb d_Model_primitive_115 (by decide) (fun c_7 => ?_) (fun c_7 => ?_)
        · replace hm := if_f c_7 hm
          refine lv_iconst (v := 0) hx hb d_Model_primitive_122 (by decide) ?_
          exact lb_Model_primitive_123 l dC dI cI cJ cB adK adV adA h v n hx hb hml hown hts hK hE hA hr hlocks rc_20 (m_Model_primitive_b75 n rc_20 f) Hrc_20 ih _ _ _ _ _ _ _ _ _ _ hm _ _ _ hP hD hS (lv_sub hl [0, 1, 2, 3, 4, 6] rfl)
        · replace hm := if_t c_7 hm
          refine lv_iconst (v := 1) hx hb d_Model_primitive_118 (by decide) ?_
          refine lv_goto (tgt := 123) hx hb d_Model_primitive_119 (by decide) ?_
          exact lb_Model_primitive_123 l dC dI cI cJ cB adK adV adA h v n hx hb hml hown hts hK hE hA hr hlocks rc_20 (m_Model_primitive_b75 n rc_20 f) Hrc_20 ih _ _ _ _ _ _ _ _ _ _ hm _ _ _ hP hD hS (lv_sub hl [0, 1, 2, 3, 4, 6] rfl)
def m_Model_primitive_b70 (n : Nat) (rc_20 : (Nat → Int32) → (Nat → Int64) → (Nat → Nat → Int32) → (Nat → Nat → Int64) → Int32 → Int32 → Int32 → Option ((Nat → Int32) × (Nat → Int64) × (Nat → Nat → Int32) × (Nat → Nat → Int64) × Int32)) (i : Nat → Int32) (j : Nat → Int64) (a : Nat → Nat → Int32) (b : Nat → Nat → Int64) (v1 : Int32) (v2 : Int32) (v3 : Int32) (v4 : Int32) (s0 : Int32) : Option ((Nat → Int32) × (Nat → Int64) × (Nat → Nat → Int32) × (Nat → Nat → Int64) × Int32) := m_Model_primitive_b75 n rc_20 n i j a b v1 v2 v3 v4 s0 (0 : Int32)
set_option maxHeartbeats 4000000 in
set_option maxRecDepth 100000 in
theorem lb_Model_primitive_70 (l : Launch) (dC : Nat → ClassId) (dI : Nat → Nat → Nat) (cI cJ cB : ClassId) (adK adV adA : Nat → Nat) (h : Nat) (v : Nat → Nat) (n : Nat) {p : Program} {e : Env} {s : State} {m : MethodId} {args : Array Value} {below : List Frame} {meth : Method} {c : Code} {A : Nat → Prop} (hx : p.tables.exec = Jvm.exec) (hb : c.code = b_Model_primitive) (hml : c.maxLocals = 7) (hown : s.vm.findClass R_Model = some m.cls) (hts : ∀ w ∈ w_Model_primitive, w.before args s = true) (hK : va_K (dC, dI) classes [(cI, .int), (cJ, .long), (cB, .byte)] s) (hE : tw_E adK adV adA A s s.heap) (hA : ∀ q : Nat, s.heap.size ≤ q → A q) (hr : meth.sig.returnType = (some .int)) (hlocks : meth.locks = false) {i2 : Nat → Int32} {j2 : Nat → Int64} {a2 : Nat → Nat → Int32} {b2 : Nat → Nat → Int64} {r2 : Int32} (rc_20 : (Nat → Int32) → (Nat → Int64) → (Nat → Nat → Int32) → (Nat → Nat → Int64) → Int32 → Int32 → Int32 → Option ((Nat → Int32) × (Nat → Int64) × (Nat → Nat → Int32) × (Nat → Nat → Int64) × Int32)) (Hrc_20 : ∀ (i : Nat → Int32) (j : Nat → Int64) (a : Nat → Nat → Int32) (b : Nat → Nat → Int64) (v1 : Int32) (v2 : Int32) (v3 : Int32), rc_20 i j a b v1 v2 v3 = some (i2, j2, a2, b2, r2) → ∀ (H : Heap) (locs : List Loc) (ls : Array Slot), va_P (dC, dI) classes (MW cI cJ cB h v i j a b) H → va_D A (MW cI cJ cB h v i j a b) → va_S A s.heap H locs → lv_has ls 7 [(0, .ref h), (1, .int v1), (2, .int v2), (3, .int v3)] → W p l e ({ frames := 4, cells := 0, slots := 0, locals := 85 } : Room) s m args below meth c H locs 0 0 (MQ below (va_Qi (xR r2) (yB dC dI cI cJ cB h v i2 j2 a2 b2 A) A) args s 0 0 A) (F0 m 20 ls [])) (i : Nat → Int32) (j : Nat → Int64) (a : Nat → Nat → Int32) (b : Nat → Nat → Int64) (v1 : Int32) (v2 : Int32) (v3 : Int32) (v4 : Int32) (s0 : Int32) (hm : m_Model_primitive_b70 n rc_20 i j a b v1 v2 v3 v4 s0 = some (i2, j2, a2, b2, r2)) : ∀ (H : Heap) (locs : List Loc) (ls : Array Slot), va_P (dC, dI) classes (MW cI cJ cB h v i j a b) H → va_D A (MW cI cJ cB h v i j a b) → va_S A s.heap H locs → lv_has ls 7 [(0, .ref h), (1, .int v1), (2, .int v2), (3, .int v3), (4, .int v4)] → W p l e ({ frames := 4, cells := 0, slots := 0, locals := 85 } : Room) s m args below meth c H locs 0 0 (MQ below (va_Qi (xR r2) (yB dC dI cI cJ cB h v i2 j2 a2 b2 A) A) args s 0 0 A) (F0 m 70 ls [.int s0]) := by
  have htt : ∀ w ∈ tw_T, w.before _ s = true := fun w h => hts w (List.mem_cons_of_mem _ h)
  intro H locs ls hP hD hS hl
  rw [m_Model_primitive_b70] at hm
  refine lv_istore (lv' := [(5, .int s0), (0, .ref h), (1, .int v1), (2, .int v2), (3, .int v3), (4, .int v4)]) hx hb d_Model_primitive_70 hl (by decide) rfl (fun ls hl => ?_)
  refine lv_iconst (v := 0) hx hb d_Model_primitive_72 (by decide) ?_
  refine lv_istore (lv' := [(6, .int 0), (5, .int s0), (0, .ref h), (1, .int v1), (2, .int v2), (3, .int v3), (4, .int v4)]) hx hb d_Model_primitive_73 hl (by decide) rfl (fun ls hl => ?_)
  exact lb_Model_primitive_75 l dC dI cI cJ cB adK adV adA h v n hx hb hml hown hts hK hE hA hr hlocks rc_20 Hrc_20 n _ _ _ _ _ _ _ _ _ _ hm _ _ _ hP hD hS (lv_sub hl [2, 3, 4, 5, 6, 1, 0] rfl)
def m_Model_primitive_b33 (n : Nat) (rc_20 : (Nat → Int32) → (Nat → Int64) → (Nat → Nat → Int32) → (Nat → Nat → Int64) → Int32 → Int32 → Int32 → Option ((Nat → Int32) × (Nat → Int64) × (Nat → Nat → Int32) × (Nat → Nat → Int64) × Int32)) : Nat → (Nat → Int32) → (Nat → Int64) → (Nat → Nat → Int32) → (Nat → Nat → Int64) → Int32 → Int32 → Int32 → Int32 → Option ((Nat → Int32) × (Nat → Int64) × (Nat → Nat → Int32) × (Nat → Nat → Int64) × Int32)
  | 0, _, _, _, _, _, _, _, _ => none
  | f + 1, i, j, a, b, v1, v2, v3, v4 => cs v4 (tw_len.getD 15 0) (if ((tw_bt 15 v4.toNatClampNeg &&& 255)) = ((32 : Int32)) then ck v1 120000 (if ((v4 - v3)) = ((a 4 v1.toNatClampNeg)) then m_Model_primitive_b70 n rc_20 i j a b v1 v2 v3 v4 (1 : Int32) else m_Model_primitive_b70 n rc_20 i j a b v1 v2 v3 v4 (0 : Int32)) else ob1 (v4 + 1 : Int32) (fun x_5 => m_Model_primitive_b33 n rc_20 f i j a b v1 v2 v3 x_5))
set_option maxHeartbeats 4000000 in
set_option maxRecDepth 100000 in
theorem lb_Model_primitive_33 (l : Launch) (dC : Nat → ClassId) (dI : Nat → Nat → Nat) (cI cJ cB : ClassId) (adK adV adA : Nat → Nat) (h : Nat) (v : Nat → Nat) (n : Nat) {p : Program} {e : Env} {s : State} {m : MethodId} {args : Array Value} {below : List Frame} {meth : Method} {c : Code} {A : Nat → Prop} (hx : p.tables.exec = Jvm.exec) (hb : c.code = b_Model_primitive) (hml : c.maxLocals = 7) (hown : s.vm.findClass R_Model = some m.cls) (hts : ∀ w ∈ w_Model_primitive, w.before args s = true) (hK : va_K (dC, dI) classes [(cI, .int), (cJ, .long), (cB, .byte)] s) (hE : tw_E adK adV adA A s s.heap) (hA : ∀ q : Nat, s.heap.size ≤ q → A q) (hr : meth.sig.returnType = (some .int)) (hlocks : meth.locks = false) {i2 : Nat → Int32} {j2 : Nat → Int64} {a2 : Nat → Nat → Int32} {b2 : Nat → Nat → Int64} {r2 : Int32} (rc_20 : (Nat → Int32) → (Nat → Int64) → (Nat → Nat → Int32) → (Nat → Nat → Int64) → Int32 → Int32 → Int32 → Option ((Nat → Int32) × (Nat → Int64) × (Nat → Nat → Int32) × (Nat → Nat → Int64) × Int32)) (Hrc_20 : ∀ (i : Nat → Int32) (j : Nat → Int64) (a : Nat → Nat → Int32) (b : Nat → Nat → Int64) (v1 : Int32) (v2 : Int32) (v3 : Int32), rc_20 i j a b v1 v2 v3 = some (i2, j2, a2, b2, r2) → ∀ (H : Heap) (locs : List Loc) (ls : Array Slot), va_P (dC, dI) classes (MW cI cJ cB h v i j a b) H → va_D A (MW cI cJ cB h v i j a b) → va_S A s.heap H locs → lv_has ls 7 [(0, .ref h), (1, .int v1), (2, .int v2), (3, .int v3)] → W p l e ({ frames := 4, cells := 0, slots := 0, locals := 85 } : Room) s m args below meth c H locs 0 0 (MQ below (va_Qi (xR r2) (yB dC dI cI cJ cB h v i2 j2 a2 b2 A) A) args s 0 0 A) (F0 m 20 ls [])) : ∀ (f : Nat) (i : Nat → Int32) (j : Nat → Int64) (a : Nat → Nat → Int32) (b : Nat → Nat → Int64) (v1 : Int32) (v2 : Int32) (v3 : Int32) (v4 : Int32), m_Model_primitive_b33 n rc_20 f i j a b v1 v2 v3 v4 = some (i2, j2, a2, b2, r2) → ∀ (H : Heap) (locs : List Loc) (ls : Array Slot), va_P (dC, dI) classes (MW cI cJ cB h v i j a b) H → va_D A (MW cI cJ cB h v i j a b) → va_S A s.heap H locs → lv_has ls 7 [(0, .ref h), (1, .int v1), (2, .int v2), (3, .int v3), (4, .int v4)] → W p l e ({ frames := 4, cells := 0, slots := 0, locals := 85 } : Room) s m args below meth c H locs 0 0 (MQ below (va_Qi (xR r2) (yB dC dI cI cJ cB h v i2 j2 a2 b2 A) A) args s 0 0 A) (F0 m 33 ls []) := by
  have htt : ∀ w ∈ tw_T, w.before _ s = true := fun w h => hts w (List.mem_cons_of_mem _ h)
  intro f
  induction f with
  | zero =>
    intro i j a b v1 v2 v3 v4 hm
    rw [m_Model_primitive_b33] at hm
    cases hm
  | succ f ih =>
    intro i j a b v1 v2 v3 v4 hm H locs ls hP hD hS hl
    rw [m_Model_primitive_b33] at hm
    refine tw_ldcwS hx hb hown (show vk_R "TurtleWorldModel" 668 _ (adK 15) s from hE.ref 15 (by decide)) d_Model_primitive_33 ?_
    refine lv_iload hx hb d_Model_primitive_36 (lv_at hl 4 rfl) ?_
    have hFc := x_free0 hS hA
    obtain ⟨h_1a, h_1b, hm⟩ := cs_some hm
    refine va_calli (va_runV (As := [.int v4]) (rest := []) ⟨hx, hb, hml, hown, hts⟩ (c_String_charAt l dC dI H.size (adK 15) (adV 15) (tw_len.getD 15 0) (tw_bt 15) v4 h_1a h_1b) (cwV 1 hts (tw_GV tw_cons cw_String_charAt lk_Model_81 in_String_charAt sel_String_charAt ini_String) rfl rfl rfl ⟨rfl, hd_String_charAt⟩ ⟨Nat.le_of_ble_eq_true rfl, Nat.le_of_ble_eq_true rfl⟩) (ypStr hK hS (hE.str 15 (by decide)) hFc) rfl rfl hl.1 rfl (lv_room (Nat.le_of_ble_eq_true rfl)) d_Model_primitive_38 ⟨Nat.le_of_ble_eq_true rfl, Nat.le_of_ble_eq_true rfl⟩) hS (fun q _ h => hFc q h) hFc (fun r9 u9 t9 H locs ht hvm e9 hB hz1 hk1 hS => ?_)
    have e9 : r9 = tw_bt 15 v4.toNatClampNeg &&& 255 := e9
    subst e9
    replace hP := x_keep hP hk1
    clear hFc hk1 hz1 hvm hB ht
    refine lv_bipush (v := 32) hx hb d_Model_primitive_41 (by decide) ?_
    refine lv_icmp_eq (tgt := 52) hx hb d_Model_primitive_43 (by decide) (fun c_2 => ?_) (fun c_2 => ?_)
    · replace hm := if_t c_2 hm
      refine lv_iload hx hb d_Model_primitive_52 (lv_at hl 4 rfl) ?_
      refine lv_iload_n hx hb d_Model_primitive_54 rfl (lv_at hl 3 rfl) ?_
      refine lv_isub hx hb d_Model_primitive_55 ?_
      refine lv_aload_n hx hb d_Model_primitive_56 rfl (lv_at hl 0 rfl) ?_
      refine va_get (D := (dC, dI)) (ci := 12) (v := .ref ((v 4))) (C := R_Model) (T := F_Model) (N := 127) hx hb htt iw_Model hown hK hP 0 yo_12 rfl 4 (Nat.le_of_ble_eq_true rfl) (htt _ lk_Model_22) (fun _ h9 => h9) yg_4 d_Model_primitive_57 ?_
      refine lv_iload_n hx hb d_Model_primitive_60 rfl (lv_at hl 1 rfl) ?_
      obtain ⟨h_3, hm⟩ := ck_some hm
      refine va_iald hx hb hK hP 4 0 ya_4 rfl h_3 d_Model_primitive_61 ?_
      refine lv_icmp_ne (tgt := 69) hx hb d_Model_primitive_62 (by decide) (fun c_4 => ?_) (fun c_4 => ?_)
      · replace hm := if_f c_4 hm
        refine lv_iconst (v := 0) hx hb d_Model_primitive_69 (by decide) ?_
        exact lb_Model_primitive_70 l dC dI cI cJ cB adK adV adA h v n hx hb hml hown hts hK hE hA hr hlocks rc_20 Hrc_20 _ _ _ _ _ _ _ _ _ hm _ _ _ hP hD hS (lv_sub hl [0, 1, 2, 3, 4] rfl)
      · replace hm := if_t c_4 hm
        refine lv_iconst (v := 1) hx hb d_Model_primitive_65 (by decide) ?_
        refine lv_goto (tgt := 70) hx hb d_Model_primitive_66 (by decide) ?_
        exact lb_Model_primitive_70 l dC dI cI cJ cB adK adV adA h v n hx hb hml hown hts hK hE hA hr hlocks rc_20 Hrc_20 _ _ _ _ _ _ _ _ _ hm _ _ _ hP hD hS (lv_sub hl [0, 1, 2, 3, 4] rfl)
    · replace hm := if_f c_2 hm
      obtain ⟨x_5, ex_5⟩ : ∃ y9 : Int32, y9 = v4 + 1 := ⟨_, rfl⟩
      replace hm := ob1_at ex_5 hm
      refine lv_iinc (v := x_5) (lv' := [(4, .int x_5), (0, .ref h), (1, .int v1), (2, .int v2), (3, .int v3)]) hx hb d_Model_primitive_46 hl (k := 4) rfl (by rw [ex_5]; rfl) (by decide) rfl (fun ls hl => ?_)
      refine lv_goto (tgt := 33) hx hb d_Model_primitive_49 (by decide) ?_
      exact ih _ _ _ _ _ _ _ _ hm _ _ _ hP hD hS (lv_sub hl [1, 2, 3, 4, 0] rfl)
def m_Model_primitive_b20 (n : Nat) : Nat → (Nat → Int32) → (Nat → Int64) → (Nat → Nat → Int32) → (Nat → Nat → Int64) → Int32 → Int32 → Int32 → Option ((Nat → Int32) × (Nat → Int64) × (Nat → Nat → Int32) × (Nat → Nat → Int64) × Int32)
  | 0, _, _, _, _, _, _, _ => none
  | f + 1, i, j, a, b, v1, v2, v3 => if ((nI (tw_len.getD 15 0))) ≤ v3 then m_Model_primitive_b165 n i j a b v1 else m_Model_primitive_b33 n (m_Model_primitive_b20 n f) n i j a b v1 v2 v3 v3
set_option maxHeartbeats 4000000 in
set_option maxRecDepth 100000 in
theorem lb_Model_primitive_20 (l : Launch) (dC : Nat → ClassId) (dI : Nat → Nat → Nat) (cI cJ cB : ClassId) (adK adV adA : Nat → Nat) (h : Nat) (v : Nat → Nat) (n : Nat) {p : Program} {e : Env} {s : State} {m : MethodId} {args : Array Value} {below : List Frame} {meth : Method} {c : Code} {A : Nat → Prop} (hx : p.tables.exec = Jvm.exec) (hb : c.code = b_Model_primitive) (hml : c.maxLocals = 7) (hown : s.vm.findClass R_Model = some m.cls) (hts : ∀ w ∈ w_Model_primitive, w.before args s = true) (hK : va_K (dC, dI) classes [(cI, .int), (cJ, .long), (cB, .byte)] s) (hE : tw_E adK adV adA A s s.heap) (hA : ∀ q : Nat, s.heap.size ≤ q → A q) (hr : meth.sig.returnType = (some .int)) (hlocks : meth.locks = false) {i2 : Nat → Int32} {j2 : Nat → Int64} {a2 : Nat → Nat → Int32} {b2 : Nat → Nat → Int64} {r2 : Int32} : ∀ (f : Nat) (i : Nat → Int32) (j : Nat → Int64) (a : Nat → Nat → Int32) (b : Nat → Nat → Int64) (v1 : Int32) (v2 : Int32) (v3 : Int32), m_Model_primitive_b20 n f i j a b v1 v2 v3 = some (i2, j2, a2, b2, r2) → ∀ (H : Heap) (locs : List Loc) (ls : Array Slot), va_P (dC, dI) classes (MW cI cJ cB h v i j a b) H → va_D A (MW cI cJ cB h v i j a b) → va_S A s.heap H locs → lv_has ls 7 [(0, .ref h), (1, .int v1), (2, .int v2), (3, .int v3)] → W p l e ({ frames := 4, cells := 0, slots := 0, locals := 85 } : Room) s m args below meth c H locs 0 0 (MQ below (va_Qi (xR r2) (yB dC dI cI cJ cB h v i2 j2 a2 b2 A) A) args s 0 0 A) (F0 m 20 ls []) := by
  have htt : ∀ w ∈ tw_T, w.before _ s = true := fun w h => hts w (List.mem_cons_of_mem _ h)
  intro f
  induction f with
  | zero =>
    intro i j a b v1 v2 v3 hm
    rw [m_Model_primitive_b20] at hm
    cases hm
  | succ f ih =>
    intro i j a b v1 v2 v3 hm H locs ls hP hD hS hl
    rw [m_Model_primitive_b20] at hm
    refine lv_iload_n hx hb d_Model_primitive_20 rfl (lv_at hl 3 rfl) ?_
    refine tw_ldcwS hx hb hown (show vk_R "TurtleWorldModel" 668 _ (adK 15) s from hE.ref 15 (by decide)) d_Model_primitive_21 ?_
    have hFc := x_free0 hS hA
    refine va_calli (va_runV (As := []) (rest := [.int v3]) ⟨hx, hb, hml, hown, hts⟩ (c_String_length l dC dI H.size (adK 15) (adV 15) (tw_len.getD 15 0) (tw_bt 15)) (cwV 0 hts (tw_GV tw_cons cw_String_length lk_Model_75 in_String_length sel_String_length ini_String) rfl rfl rfl ⟨rfl, hd_String_length⟩ ⟨Nat.le_of_ble_eq_true rfl, Nat.le_of_ble_eq_true rfl⟩) (ypStr hK hS (hE.str 15 (by decide)) hFc) rfl rfl hl.1 rfl (lv_room (Nat.le_of_ble_eq_true rfl)) d_Model_primitive_24 ⟨Nat.le_of_ble_eq_true rfl, Nat.le_of_ble_eq_true rfl⟩) hS (fun q _ h => hFc q h) hFc (fun r9 u9 t9 H locs ht hvm e9 hB hz1 hk1 hS => ?_)
    have e9 : r9 = nI (tw_len.getD 15 0) := e9
    subst e9
    replace hP := x_keep hP hk1
    clear hFc hk1 hz1 hvm hB ht
    refine lv_icmp_ge (tgt := 165) hx hb d_Model_primitive_27 (by decide) (fun c_1 => ?_) (fun c_1 => ?_)
    · replace hm := if_t c_1 hm
      exact lb_Model_primitive_165 l dC dI cI cJ cB adK adV adA h v n hx hb hml hown hts hK hE hA hr hlocks _ _ _ _ _ hm _ _ _ hP hD hS (lv_sub hl [0, 1] rfl)
    · replace hm := if_f c_1 hm
      refine lv_iload_n hx hb d_Model_primitive_30 rfl (lv_at hl 3 rfl) ?_
      refine lv_istore (lv' := [(4, .int v3), (0, .ref h), (1, .int v1), (2, .int v2), (3, .int v3)]) hx hb d_Model_primitive_31 hl (by decide) rfl (fun ls hl => ?_)
      exact lb_Model_primitive_33 l dC dI cI cJ cB adK adV adA h v n hx hb hml hown hts hK hE hA hr hlocks (m_Model_primitive_b20 n f) ih n _ _ _ _ _ _ _ _ hm _ _ _ hP hD hS (lv_sub hl [1, 2, 3, 4, 0] rfl)
def m_Model_primitive (n : Nat) (i : Nat → Int32) (j : Nat → Int64) (a : Nat → Nat → Int32) (b : Nat → Nat → Int64) (v1 : Int32) : Option ((Nat → Int32) × (Nat → Int64) × (Nat → Nat → Int32) × (Nat → Nat → Int64) × Int32) := ck v1 120000 (if ((a 7 v1.toNatClampNeg)) = ((0 : Int32)) then ck v1 120000 (ob1 (sv a 7 v1.toNatClampNeg 1 : Nat → Nat → Int32) (fun a_4 => m_Model_primitive_b20 n n i j a_4 b v1 (0 : Int32) (1 : Int32))) else m_Model_primitive_b165 n i j a b v1)
set_option maxHeartbeats 4000000 in
set_option maxRecDepth 100000 in
theorem x_Model_primitive (l : Launch) (dC : Nat → ClassId) (dI : Nat → Nat → Nat) (cI cJ cB : ClassId) (adK adV adA : Nat → Nat) (h : Nat) (v : Nat → Nat) (sz : Nat) (n : Nat) {i : Nat → Int32} {j : Nat → Int64} {a : Nat → Nat → Int32} {b : Nat → Nat → Int64} {v1 : Int32} {i2 : Nat → Int32} {j2 : Nat → Int64} {a2 : Nat → Nat → Int32} {b2 : Nat → Nat → Int64} {r2 : Int32} (hm : m_Model_primitive n i j a b v1 = some (i2, j2, a2, b2, r2)) : Met l y_Model_primitive w_Model_primitive ({ frames := 4, cells := 0, slots := 0, locals := 85 } : Room) (va_Pc [.ref h, .int v1] (yE dC dI cI cJ cB adK adV adA h v i j a b sz)) (va_Qi (xR r2) (yB dC dI cI cJ cB h v i2 j2 a2 b2 (va_A (MW cI cJ cB h v i j a b) sz)) (va_A (MW cI cJ cB h v i j a b) sz)) 0 0 ((va_A (MW cI cJ cB h v i j a b) sz)) := by
  refine Met.ofW (cc := b_Model_primitive) (maxL := 7) (ret := (some .int)) (by decide) rfl ?_
  intro p e s m args below meth c s₁ B hml hv
  obtain ⟨rfl, hsz, hP, hK, hE, hD0⟩ := hv
  have hx := B.exec
  have hb := B.bytes
  have hr := B.returns
  have hts := atoms_spec (ws := w_Model_primitive) B.pre
  have htt : ∀ w ∈ tw_T, w.before _ s = true := fun w h => hts w (List.mem_cons_of_mem _ h)
  have hown : s.vm.findClass R_Model = some m.cls := findClass_of_methodNamed B.named
  have hlocks := B.notSynchronized
  subst hsz
  have hD := hD0.self (sz := s.heap.size)
  generalize hAe : (va_A (MW cI cJ cB h v i j a b) s.heap.size) = A at hD hE ⊢
  have hA : ∀ q : Nat, s.heap.size ≤ q → A q := fun q h => by rw [← hAe]; exact Or.inr h
  have hS : va_S A s.heap s.heap [] := va_S.rf
  have hl := lv_entry ([.ref h, .int v1]) (n := 7) (Nat.le_of_ble_eq_true rfl)
  rw [lg_entry_eq]
  generalize (lg_sl ([.ref h, .int v1]) ++ List.replicate (7 - (lg_sl ([.ref h, .int v1])).length) Slot.unset).toArray = ls at hl ⊢
  have hl : lv_has ls 7 [(0, .ref h), (1, .int v1)] := hl
  rw [m_Model_primitive] at hm
  refine lv_aload_n hx hb d_Model_primitive_0 rfl (lv_at hl 0 rfl) ?_
  refine va_get (D := (dC, dI)) (ci := 12) (v := .ref ((v 7))) (C := R_Model) (T := F_Model) (N := 127) hx hb htt iw_Model hown hK hP 0 yo_12 rfl 7 (Nat.le_of_ble_eq_true rfl) (htt _ lk_Model_25) (fun _ h9 => h9) yg_7 d_Model_primitive_1 ?_
  refine lv_iload_n hx hb d_Model_primitive_4 rfl (lv_at hl 1 rfl) ?_
  obtain ⟨h_1, hm⟩ := ck_some hm
  refine va_iald hx hb hK hP 7 0 ya_7 rfl h_1 d_Model_primitive_5 ?_
  refine lv_if_ne (tgt := 165) hx hb d_Model_primitive_6 (by decide) (fun c_2 => ?_) (fun c_2 => ?_)
  · replace hm := if_f c_2 hm
    exact lb_Model_primitive_165 l dC dI cI cJ cB adK adV adA h v n hx hb hml hown hts hK hE hA hr hlocks _ _ _ _ _ hm _ _ _ hP hD hS (lv_sub hl [0, 1] rfl)
  · replace hm := if_t c_2 hm
    refine lv_iconst (v := 0) hx hb d_Model_primitive_9 (by decide) ?_
    refine lv_istore_n (lv' := [(2, .int 0), (0, .ref h), (1, .int v1)]) hx hb d_Model_primitive_10 rfl hl (by decide) rfl (fun ls hl => ?_)
    refine lv_iconst (v := 1) hx hb d_Model_primitive_11 (by decide) ?_
    refine lv_istore_n (lv' := [(3, .int 1), (2, .int 0), (0, .ref h), (1, .int v1)]) hx hb d_Model_primitive_12 rfl hl (by decide) rfl (fun ls hl => ?_)
    refine lv_aload_n hx hb d_Model_primitive_13 rfl (lv_at hl 2 rfl) ?_
    refine va_get (D := (dC, dI)) (ci := 12) (v := .ref ((v 7))) (C := R_Model) (T := F_Model) (N := 127) hx hb htt iw_Model hown hK hP 0 yo_12 rfl 7 (Nat.le_of_ble_eq_true rfl) (htt _ lk_Model_25) (fun _ h9 => h9) yg_7 d_Model_primitive_14 ?_
    refine lv_iload_n hx hb d_Model_primitive_17 rfl (lv_at hl 3 rfl) ?_
    refine lv_iconst (v := 1) hx hb d_Model_primitive_18 (by decide) ?_
    obtain ⟨h_3, hm⟩ := ck_some hm
    refine va_iast hx hb hK hP hD hS 7 0 ya_7 rfl h_3 d_Model_primitive_19 (fun H locs hP hD hS => ?_)
    obtain ⟨a_4, ea_4⟩ : ∃ y9 : Nat → Nat → Int32, y9 = sv a 7 v1.toNatClampNeg 1 := ⟨_, rfl⟩
    replace hm := ob1_at ea_4 hm
    obtain ⟨hP, hD⟩ := yv_7 ea_4 hP hD
    exact lb_Model_primitive_20 l dC dI cI cJ cB adK adV adA h v n hx hb hml hown hts hK hE hA hr hlocks n _ _ _ _ _ _ _ hm _ _ _ hP hD hS (lv_sub hl [2, 3, 1, 0] rfl)

def m_Model_sameLetters_b11 (n : Nat) (i : Nat → Int32) (j : Nat → Int64) (a : Nat → Nat → Int32) (b : Nat → Nat → Int64) : Nat → Int32 → Int32 → Int32 → Int32 → Option (Int32)
  | 0, _, _, _, _ => none
  | f + 1, v1, v2, v3, v5 => if v2 ≤ v5 then some 1 else ck ((v1 + v5)) 300000 (ck ((v3 + v5)) 300000 (if ((a 1 (v1 + v5).toNatClampNeg)) = ((a 1 (v3 + v5).toNatClampNeg)) then ob1 (v5 + 1 : Int32) (fun x_5 => m_Model_sameLetters_b11 n i j a b f v1 v2 v3 x_5) else some 0))
set_option maxHeartbeats 4000000 in
set_option maxRecDepth 100000 in
theorem lb_Model_sameLetters_11 (l : Launch) (dC : Nat → ClassId) (dI : Nat → Nat → Nat) (cI cJ cB : ClassId) (adK adV adA : Nat → Nat) (h : Nat) (v : Nat → Nat) (n : Nat) {p : Program} {e : Env} {s : State} {m : MethodId} {args : Array Value} {below : List Frame} {meth : Method} {c : Code} {A : Nat → Prop} (hx : p.tables.exec = Jvm.exec) (hb : c.code = b_Model_sameLetters) (hml : c.maxLocals = 6) (hown : s.vm.findClass R_Model = some m.cls) (hts : ∀ w ∈ w_Model_sameLetters, w.before args s = true) (hK : va_K (dC, dI) classes [(cI, .int), (cJ, .long), (cB, .byte)] s) (hE : tw_E adK adV adA A s s.heap) (hA : ∀ q : Nat, s.heap.size ≤ q → A q) (hr : meth.sig.returnType = (some .boolean)) (hlocks : meth.locks = false) {i : Nat → Int32} {j : Nat → Int64} {a : Nat → Nat → Int32} {b : Nat → Nat → Int64} {r2 : Int32} : ∀ (f : Nat) (v1 : Int32) (v2 : Int32) (v3 : Int32) (v5 : Int32), m_Model_sameLetters_b11 n i j a b f v1 v2 v3 v5 = some r2 → ∀ (H : Heap) (locs : List Loc) (ls : Array Slot), va_P (dC, dI) classes (MW cI cJ cB h v i j a b) H → va_S A s.heap H locs → lv_has ls 6 [(0, .ref h), (1, .int v1), (2, .int v2), (3, .int v3), (5, .int v5)] → W p l e ({ frames := 0, cells := 0, slots := 0, locals := 0 } : Room) s m args below meth c H locs 0 0 (MQ below (va_Qi (xR r2) xT A) args s 0 0 A) (F0 m 11 ls []) := by
  have htt : ∀ w ∈ tw_T, w.before _ s = true := fun w h => hts w (List.mem_cons_of_mem _ h)
  intro f
  induction f with
  | zero =>
    intro v1 v2 v3 v5 hm
    rw [m_Model_sameLetters_b11] at hm
    cases hm
  | succ f ih =>
    intro v1 v2 v3 v5 hm H locs ls hP hS hl
    rw [m_Model_sameLetters_b11] at hm
    refine lv_iload hx hb d_Model_sameLetters_11 (lv_at hl 4 rfl) ?_
    refine lv_iload_n hx hb d_Model_sameLetters_13 rfl (lv_at hl 2 rfl) ?_
    refine lv_icmp_ge (tgt := 46) hx hb d_Model_sameLetters_14 (by decide) (fun c_1 => ?_) (fun c_1 => ?_)
    · replace hm := if_t c_1 hm
      refine lv_iconst (v := 1) hx hb d_Model_sameLetters_46 (by decide) ?_
      have e3 := re1 hm
      exact W.zret hx hb hr (by decide) (fun t9 ht hW => ⟨⟨_, (), rfl, e3.symm, trivial⟩, hS.F ht⟩) hS.2.2 d_Model_sameLetters_47
    · replace hm := if_f c_1 hm
      refine lv_aload_n hx hb d_Model_sameLetters_17 rfl (lv_at hl 0 rfl) ?_
      refine va_get (D := (dC, dI)) (ci := 12) (v := .ref ((v 1))) (C := R_Model) (T := F_Model) (N := 127) hx hb htt iw_Model hown hK hP 0 yo_12 rfl 1 (Nat.le_of_ble_eq_true rfl) (htt _ lk_Model_67) (fun _ h9 => h9) yg_1 d_Model_sameLetters_18 ?_
      refine lv_iload_n hx hb d_Model_sameLetters_21 rfl (lv_at hl 1 rfl) ?_
      refine lv_iload hx hb d_Model_sameLetters_22 (lv_at hl 4 rfl) ?_
      refine lv_iadd hx hb d_Model_sameLetters_24 ?_
      obtain ⟨h_2, hm⟩ := ck_some hm
      refine va_bald hx hb hK hP 1 2 ya_1 rfl h_2 d_Model_sameLetters_25 ?_
      refine lv_aload_n hx hb d_Model_sameLetters_26 rfl (lv_at hl 0 rfl) ?_
      refine va_get (D := (dC, dI)) (ci := 12) (v := .ref ((v 1))) (C := R_Model) (T := F_Model) (N := 127) hx hb htt iw_Model hown hK hP 0 yo_12 rfl 1 (Nat.le_of_ble_eq_true rfl) (htt _ lk_Model_67) (fun _ h9 => h9) yg_1 d_Model_sameLetters_27 ?_
      refine lv_iload_n hx hb d_Model_sameLetters_30 rfl (lv_at hl 3 rfl) ?_
      refine lv_iload hx hb d_Model_sameLetters_31 (lv_at hl 4 rfl) ?_
      refine lv_iadd hx hb d_Model_sameLetters_33 ?_
      obtain ⟨h_3, hm⟩ := ck_some hm
      refine va_bald hx hb hK hP 1 2 ya_1 rfl h_3 d_Model_sameLetters_34 ?_
      refine lv_icmp_eq (tgt := 40) hx hb d_Model_sameLetters_35 (by decide) (fun c_4 => ?_) (fun c_4 => ?_)
      · replace hm := if_t c_4 hm
        obtain ⟨x_5, ex_5⟩ : ∃ y9 : Int32, y9 = v5 + 1 := ⟨_, rfl⟩
        replace hm := ob1_at ex_5 hm
        refine lv_iinc (v := x_5) (lv' := [(5, .int x_5), (0, .ref h), (1, .int v1), (2, .int v2), (3, .int v3)]) hx hb d_Model_sameLetters_40 hl (k := 4) rfl (by rw [ex_5]; rfl) (by decide) rfl (fun ls hl => ?_)
        refine lv_goto (tgt := 11) hx hb d_Model_sameLetters_43 (by decide) ?_
        exact ih _ _ _ _ hm _ _ _ hP hS (lv_sub hl [1, 2, 3, 4, 0] rfl)
      · replace hm := if_f c_4 hm
        refine lv_iconst (v := 0) hx hb d_Model_sameLetters_38 (by decide) ?_
        have e3 := re1 hm
        exact W.zret hx hb hr (by decide) (fun t9 ht hW => ⟨⟨_, (), rfl, e3.symm, trivial⟩, hS.F ht⟩) hS.2.2 d_Model_sameLetters_39
def m_Model_sameLetters (n : Nat) (i : Nat → Int32) (j : Nat → Int64) (a : Nat → Nat → Int32) (b : Nat → Nat → Int64) (v1 : Int32) (v2 : Int32) (v3 : Int32) (v4 : Int32) : Option (Int32) := if v2 = v4 then m_Model_sameLetters_b11 n i j a b n v1 v2 v3 (0 : Int32) else some 0
set_option maxHeartbeats 4000000 in
set_option maxRecDepth 100000 in
theorem x_Model_sameLetters (l : Launch) (dC : Nat → ClassId) (dI : Nat → Nat → Nat) (cI cJ cB : ClassId) (adK adV adA : Nat → Nat) (h : Nat) (v : Nat → Nat) (sz : Nat) (n : Nat) {i : Nat → Int32} {j : Nat → Int64} {a : Nat → Nat → Int32} {b : Nat → Nat → Int64} {v1 : Int32} {v2 : Int32} {v3 : Int32} {v4 : Int32} {r2 : Int32} (hm : m_Model_sameLetters n i j a b v1 v2 v3 v4 = some r2) : Met l y_Model_sameLetters w_Model_sameLetters ({ frames := 0, cells := 0, slots := 0, locals := 0 } : Room) (va_Pc [.ref h, .int v1, .int v2, .int v3, .int v4] (yEr dC dI cI cJ cB adK adV adA h v i j a b sz)) (va_Qi (xR r2) xT (xN sz)) 0 0 (xN sz) := by
  refine Met.ofW (cc := b_Model_sameLetters) (maxL := 6) (ret := (some .boolean)) (by decide) rfl ?_
  intro p e s m args below meth c s₁ B hml hv
  obtain ⟨rfl, hsz, hP, hK, hE⟩ := hv
  have hx := B.exec
  have hb := B.bytes
  have hr := B.returns
  have hts := atoms_spec (ws := w_Model_sameLetters) B.pre
  have htt : ∀ w ∈ tw_T, w.before _ s = true := fun w h => hts w (List.mem_cons_of_mem _ h)
  have hown : s.vm.findClass R_Model = some m.cls := findClass_of_methodNamed B.named
  have hlocks := B.notSynchronized
  subst hsz
  generalize hAe : xN s.heap.size = A at hE ⊢
  have hA : ∀ q : Nat, s.heap.size ≤ q → A q := fun q h => by rw [← hAe]; exact Or.inr h
  have hS : va_S A s.heap s.heap [] := va_S.rf
  have hl := lv_entry ([.ref h, .int v1, .int v2, .int v3, .int v4]) (n := 6) (Nat.le_of_ble_eq_true rfl)
  rw [lg_entry_eq]
  generalize (lg_sl ([.ref h, .int v1, .int v2, .int v3, .int v4]) ++ List.replicate (6 - (lg_sl ([.ref h, .int v1, .int v2, .int v3, .int v4])).length) Slot.unset).toArray = ls at hl ⊢
  have hl : lv_has ls 6 [(0, .ref h), (1, .int v1), (2, .int v2), (3, .int v3), (4, .int v4)] := hl
  rw [m_Model_sameLetters] at hm
  refine lv_iload_n hx hb d_Model_sameLetters_0 rfl (lv_at hl 2 rfl) ?_
  refine lv_iload hx hb d_Model_sameLetters_1 (lv_at hl 4 rfl) ?_
  refine lv_icmp_eq (tgt := 8) hx hb d_Model_sameLetters_3 (by decide) (fun c_1 => ?_) (fun c_1 => ?_)
  · replace hm := if_t c_1 hm
    refine lv_iconst (v := 0) hx hb d_Model_sameLetters_8 (by decide) ?_
    refine lv_istore (lv' := [(5, .int 0), (0, .ref h), (1, .int v1), (2, .int v2), (3, .int v3), (4, .int v4)]) hx hb d_Model_sameLetters_9 hl (by decide) rfl (fun ls hl => ?_)
    exact lb_Model_sameLetters_11 l dC dI cI cJ cB adK adV adA h v n hx hb hml hown hts hK hE hA hr hlocks n _ _ _ _ hm _ _ _ hP hS (lv_sub hl [1, 2, 3, 4, 0] rfl)
  · replace hm := if_f c_1 hm
    refine lv_iconst (v := 0) hx hb d_Model_sameLetters_6 (by decide) ?_
    have e3 := re1 hm
    exact W.zret hx hb hr (by decide) (fun t9 ht hW => ⟨⟨_, (), rfl, e3.symm, trivial⟩, hS.F ht⟩) hS.2.2 d_Model_sameLetters_7

def m_Model_put (n : Nat) (i : Nat → Int32) (j : Nat → Int64) (a : Nat → Nat → Int32) (b : Nat → Nat → Int64) (v1 : Int64) : Option ((Nat → Int32) × (Nat → Int64) × (Nat → Nat → Int32) × (Nat → Nat → Int64) × Int32) := ck ((i 20)) 90000 (ob1 (svl b 10 (i 20).toNatClampNeg v1 : Nat → Nat → Int64) (fun b_2 => ob1 ((i 20) + 1 : Int32) (fun x_3 => ob1 (upd i 20 x_3 : Nat → Int32) (fun i_4 => some (i_4, j, a, b_2, (0 : Int32))))))
set_option maxHeartbeats 4000000 in
set_option maxRecDepth 100000 in
theorem x_Model_put (l : Launch) (dC : Nat → ClassId) (dI : Nat → Nat → Nat) (cI cJ cB : ClassId) (adK adV adA : Nat → Nat) (h : Nat) (v : Nat → Nat) (sz : Nat) (n : Nat) {i : Nat → Int32} {j : Nat → Int64} {a : Nat → Nat → Int32} {b : Nat → Nat → Int64} {v1 : Int64} {i2 : Nat → Int32} {j2 : Nat → Int64} {a2 : Nat → Nat → Int32} {b2 : Nat → Nat → Int64} {r2 : Int32} (hm : m_Model_put n i j a b v1 = some (i2, j2, a2, b2, r2)) : Met l y_Model_put w_Model_put ({ frames := 0, cells := 0, slots := 0, locals := 0 } : Room) (va_Pc [.ref h, .long v1] (yE dC dI cI cJ cB adK adV adA h v i j a b sz)) (va_Qv xV (yB dC dI cI cJ cB h v i2 j2 a2 b2 (va_A (MW cI cJ cB h v i j a b) sz)) (va_A (MW cI cJ cB h v i j a b) sz)) 0 0 ((va_A (MW cI cJ cB h v i j a b) sz)) := by
  refine Met.ofW (cc := b_Model_put) (maxL := 3) (ret := none) (by decide) rfl ?_
  intro p e s m args below meth c s₁ B hml hv
  obtain ⟨rfl, hsz, hP, hK, hE, hD0⟩ := hv
  have hx := B.exec
  have hb := B.bytes
  have hr := B.returns
  have hts := atoms_spec (ws := w_Model_put) B.pre
  have htt : ∀ w ∈ tw_T, w.before _ s = true := fun w h => hts w (List.mem_cons_of_mem _ h)
  have hown : s.vm.findClass R_Model = some m.cls := findClass_of_methodNamed B.named
  have hlocks := B.notSynchronized
  subst hsz
  have hD := hD0.self (sz := s.heap.size)
  generalize hAe : (va_A (MW cI cJ cB h v i j a b) s.heap.size) = A at hD hE ⊢
  have hA : ∀ q : Nat, s.heap.size ≤ q → A q := fun q h => by rw [← hAe]; exact Or.inr h
  have hS : va_S A s.heap s.heap [] := va_S.rf
  have hl := lv_entry ([.ref h, .long v1]) (n := 3) (Nat.le_of_ble_eq_true rfl)
  rw [lg_entry_eq]
  generalize (lg_sl ([.ref h, .long v1]) ++ List.replicate (3 - (lg_sl ([.ref h, .long v1])).length) Slot.unset).toArray = ls at hl ⊢
  have hl : lv_has ls 3 [(0, .ref h), (1, .long v1)] := hl
  rw [m_Model_put] at hm
  refine lv_aload_n hx hb d_Model_put_0 rfl (lv_at hl 0 rfl) ?_
  refine va_get (D := (dC, dI)) (ci := 12) (v := .ref ((v 10))) (C := R_Model) (T := F_Model) (N := 127) hx hb htt iw_Model hown hK hP 0 yo_12 rfl 10 (Nat.le_of_ble_eq_true rfl) (htt _ lk_Model_35) (fun _ h9 => h9) yg_10 d_Model_put_1 ?_
  refine lv_aload_n hx hb d_Model_put_4 rfl (lv_at hl 0 rfl) ?_
  refine va_get (D := (dC, dI)) (ci := 12) (v := .int (i 20)) (C := R_Model) (T := F_Model) (N := 127) hx hb htt iw_Model hown hK hP 0 yo_12 rfl 20 (Nat.le_of_ble_eq_true rfl) (htt _ lk_Model_32) (fun _ h9 => h9) yg_20 d_Model_put_5 ?_
  refine lv_lload_n hx hb d_Model_put_8 rfl (lv_at hl 1 rfl) ?_
  obtain ⟨h_1, hm⟩ := ck_some hm
  refine va_last hx hb hK hP hD hS 10 1 ya_10 rfl h_1 d_Model_put_9 (fun H locs hP hD hS => ?_)
  obtain ⟨b_2, eb_2⟩ : ∃ y9 : Nat → Nat → Int64, y9 = svl b 10 (i 20).toNatClampNeg v1 := ⟨_, rfl⟩
  replace hm := ob1_at eb_2 hm
  obtain ⟨hP, hD⟩ := yv_10 eb_2 hP hD
  refine lv_aload_n hx hb d_Model_put_10 rfl (lv_at hl 0 rfl) ?_
  refine lv_dup hx hb d_Model_put_11 rfl ?_
  refine va_get (D := (dC, dI)) (ci := 12) (v := .int (i 20)) (C := R_Model) (T := F_Model) (N := 127) hx hb htt iw_Model hown hK hP 0 yo_12 rfl 20 (Nat.le_of_ble_eq_true rfl) (htt _ lk_Model_32) (fun _ h9 => h9) yg_20 d_Model_put_12 ?_
  refine lv_iconst (v := 1) hx hb d_Model_put_15 (by decide) ?_
  refine lv_iadd hx hb d_Model_put_16 ?_
  refine lv_topi (fun x_3 ex_3 => ?_)
  replace hm := ob1_at ex_3 hm
  refine va_put (D := (dC, dI)) (ci := 12) (v := .int x_3) (ty := .int) (C := R_Model) (T := F_Model) (N := 127) hx hb htt iw_Model t_Model t_Model_ok n_Model hown hK hP hD hS 0 yo_12 rfl 20 (Nat.le_of_ble_eq_true rfl) (htt _ lk_Model_32) (fun _ h9 => h9) rfl (by decide +kernel) rfl rfl yl_20 d_Model_put_17 (fun H locs hP hD hS => ?_)
  obtain ⟨i_4, ei_4⟩ : ∃ y9 : Nat → Int32, y9 = upd i 20 x_3 := ⟨_, rfl⟩
  replace hm := ob1_at ei_4 hm
  obtain ⟨hP, hD⟩ := yw_20 ei_4 hP hD
  obtain ⟨e1i, e1j, e1a, e1b, e3⟩ := re4m hm
  obtain ⟨hP, hD⟩ := y_eq e1i e1j e1a e1b hP hD
  exact W.vret hx hb hr (fun t9 ht hW => ⟨⟨(), rfl, trivial, by rw [ht]; exact hP, hD⟩, hS.F ht⟩) hS.2.2 d_Model_put_20

def m_Model_listValue (n : Nat) (v0 : Int32) : Option (Int64) := some ((v0.toInt64 <<< ((2 : Int32).toInt64 &&& 63)) ||| 2)
set_option maxHeartbeats 4000000 in
set_option maxRecDepth 100000 in
theorem x_Model_listValue (l : Launch) (sz : Nat) (n : Nat) {v0 : Int32} {r2 : Int64} (hm : m_Model_listValue n v0 = some r2) : Met l y_Model_listValue w_Model_listValue ({ frames := 0, cells := 0, slots := 0, locals := 0 } : Room) (va_Pc [.int v0] (xE0 sz)) (va_Ql (xR r2) xT (xN sz)) 0 0 (xN sz) := by
  refine Met.ofW (cc := b_Model_listValue) (maxL := 1) (ret := (some .long)) (by decide) rfl ?_
  intro p e s m args below meth c s₁ B hml hv
  obtain ⟨rfl, hsz⟩ := hv
  have hx := B.exec
  have hb := B.bytes
  have hr := B.returns
  have hts := atoms_spec (ws := w_Model_listValue) B.pre
  have htt : ∀ w ∈ tw_T, w.before _ s = true := fun w h => hts w (List.mem_cons_of_mem _ h)
  have hown : s.vm.findClass R_Model = some m.cls := findClass_of_methodNamed B.named
  have hlocks := B.notSynchronized
  subst hsz
  generalize hAe : xN s.heap.size = A
  have hA : ∀ q : Nat, s.heap.size ≤ q → A q := fun q h => by rw [← hAe]; exact Or.inr h
  have hS : va_S A s.heap s.heap [] := va_S.rf
  have hl := lv_entry ([.int v0]) (n := 1) (Nat.le_of_ble_eq_true rfl)
  rw [lg_entry_eq]
  generalize (lg_sl ([.int v0]) ++ List.replicate (1 - (lg_sl ([.int v0])).length) Slot.unset).toArray = ls at hl ⊢
  have hl : lv_has ls 1 [(0, .int v0)] := hl
  rw [m_Model_listValue] at hm
  refine lv_iload_n hx hb d_Model_listValue_0 rfl (lv_at hl 0 rfl) ?_
  refine lv_i2l hx hb d_Model_listValue_1 rfl ?_
  refine lv_iconst (v := 2) hx hb d_Model_listValue_2 (by decide) ?_
  refine lv_lshl hx hb d_Model_listValue_3 rfl ?_
  refine lv_ldc2 (v := 2) hx hb hown (htt _ lk_Model_9) d_Model_listValue_4 ?_
  refine lv_lor hx hb d_Model_listValue_7 ?_
  have e3 := re1 hm
  exact W.lret hx hb hr (fun t9 ht hW => ⟨⟨_, (), rfl, e3.symm, trivial⟩, hS.F ht⟩) hS.2.2 d_Model_listValue_8

def m_Model_moveWord_b100 (n : Nat) (i : Nat → Int32) (j : Nat → Int64) (a : Nat → Nat → Int32) (b : Nat → Nat → Int64) (v1 : Int32) : Option ((Nat → Int32) × (Nat → Int64) × (Nat → Nat → Int32) × (Nat → Nat → Int64) × Int32) := ck v1 120000 (some (i, j, a, b, a 8 v1.toNatClampNeg))
set_option maxHeartbeats 4000000 in
set_option maxRecDepth 100000 in
theorem lb_Model_moveWord_100 (l : Launch) (dC : Nat → ClassId) (dI : Nat → Nat → Nat) (cI cJ cB : ClassId) (adK adV adA : Nat → Nat) (h : Nat) (v : Nat → Nat) (n : Nat) {p : Program} {e : Env} {s : State} {m : MethodId} {args : Array Value} {below : List Frame} {meth : Method} {c : Code} {A : Nat → Prop} (hx : p.tables.exec = Jvm.exec) (hb : c.code = b_Model_moveWord) (hml : c.maxLocals = 2) (hown : s.vm.findClass R_Model = some m.cls) (hts : ∀ w ∈ w_Model_moveWord, w.before args s = true) (hK : va_K (dC, dI) classes [(cI, .int), (cJ, .long), (cB, .byte)] s) (hE : tw_E adK adV adA A s s.heap) (hA : ∀ q : Nat, s.heap.size ≤ q → A q) (hr : meth.sig.returnType = (some .int)) (hlocks : meth.locks = false) {i2 : Nat → Int32} {j2 : Nat → Int64} {a2 : Nat → Nat → Int32} {b2 : Nat → Nat → Int64} {r2 : Int32} (i : Nat → Int32) (j : Nat → Int64) (a : Nat → Nat → Int32) (b : Nat → Nat → Int64) (v1 : Int32) (hm : m_Model_moveWord_b100 n i j a b v1 = some (i2, j2, a2, b2, r2)) : ∀ (H : Heap) (locs : List Loc) (ls : Array Slot), va_P (dC, dI) classes (MW cI cJ cB h v i j a b) H → va_D A (MW cI cJ cB h v i j a b) → va_S A s.heap H locs → lv_has ls 2 [(0, .ref h), (1, .int v1)] → W p l e ({ frames := 1, cells := 0, slots := 0, locals := 40 } : Room) s m args below meth c H locs 0 0 (MQ below (va_Qi (xR r2) (yB dC dI cI cJ cB h v i2 j2 a2 b2 A) A) args s 0 0 A) (F0 m 100 ls []) := by
  have htt : ∀ w ∈ tw_T, w.before _ s = true := fun w h => hts w (List.mem_cons_of_mem _ h)
  intro H locs ls hP hD hS hl
  rw [m_Model_moveWord_b100] at hm
  refine lv_aload_n hx hb d_Model_moveWord_100 rfl (lv_at hl 0 rfl) ?_
  refine va_get (D := (dC, dI)) (ci := 12) (v := .ref ((v 8))) (C := R_Model) (T := F_Model) (N := 127) hx hb htt iw_Model hown hK hP 0 yo_12 rfl 8 (Nat.le_of_ble_eq_true rfl) (htt _ lk_Model_166) (fun _ h9 => h9) yg_8 d_Model_moveWord_101 ?_
  refine lv_iload_n hx hb d_Model_moveWord_104 rfl (lv_at hl 1 rfl) ?_
  obtain ⟨h_1, hm⟩ := ck_some hm
  refine va_iald hx hb hK hP 8 0 ya_8 rfl h_1 d_Model_moveWord_105 ?_
  obtain ⟨e1i, e1j, e1a, e1b, e3⟩ := re4m hm
  obtain ⟨hP, hD⟩ := y_eq e1i e1j e1a e1b hP hD
  exact W.iret hx hb hr (fun t9 ht hW => ⟨⟨_, (), rfl, e3.symm, by rw [ht]; exact hP, hD⟩, hS.F ht⟩) hS.2.2 d_Model_moveWord_106
def m_Model_moveWord (n : Nat) (i : Nat → Int32) (j : Nat → Int64) (a : Nat → Nat → Int32) (b : Nat → Nat → Int64) (v1 : Int32) : Option ((Nat → Int32) × (Nat → Int64) × (Nat → Nat → Int32) × (Nat → Nat → Int64) × Int32) := ck v1 120000 (if ((a 8 v1.toNatClampNeg)) = ((-1 : Int32)) then ck v1 120000 (ck v1 120000 (cy (a 3 v1.toNatClampNeg) (i 68) (a 4 v1.toNatClampNeg) 300000 300000 (cyb (a 1) (a 3 v1.toNatClampNeg) (a 4 v1.toNatClampNeg) (ob1 (updA a 2 (va_cpy (a 1) (a 2) (a 3 v1.toNatClampNeg).toNatClampNeg (i 68).toNatClampNeg (a 4 v1.toNatClampNeg).toNatClampNeg) : Nat → Nat → Int32) (fun a_6 => ck ((i 67)) 120000 (ob1 (sv a_6 5 (i 67).toNatClampNeg (i 68) : Nat → Nat → Int32) (fun a_8 => ck v1 120000 (ck ((i 67)) 120000 (ob1 (sv a_8 6 (i 67).toNatClampNeg (a_8 4 v1.toNatClampNeg) : Nat → Nat → Int32) (fun a_11 => ck v1 120000 (ob1 ((i 68) + (a_11 4 v1.toNatClampNeg) : Int32) (fun x_13 => ob1 (upd i 68 x_13 : Nat → Int32) (fun i_14 => ck v1 120000 (ob1 (sv a_11 8 v1.toNatClampNeg (i_14 67) : Nat → Nat → Int32) (fun a_16 => ob1 ((i_14 67) + 1 : Int32) (fun x_17 => ob1 (upd i_14 67 x_17 : Nat → Int32) (fun i_18 => m_Model_moveWord_b100 n i_18 j a_16 b v1))))))))))))))))) else m_Model_moveWord_b100 n i j a b v1)
set_option maxHeartbeats 4000000 in
set_option maxRecDepth 100000 in
theorem x_Model_moveWord (l : Launch) (dC : Nat → ClassId) (dI : Nat → Nat → Nat) (cI cJ cB : ClassId) (adK adV adA : Nat → Nat) (h : Nat) (v : Nat → Nat) (sz : Nat) (n : Nat) {i : Nat → Int32} {j : Nat → Int64} {a : Nat → Nat → Int32} {b : Nat → Nat → Int64} {v1 : Int32} {i2 : Nat → Int32} {j2 : Nat → Int64} {a2 : Nat → Nat → Int32} {b2 : Nat → Nat → Int64} {r2 : Int32} (hm : m_Model_moveWord n i j a b v1 = some (i2, j2, a2, b2, r2)) : Met l y_Model_moveWord w_Model_moveWord ({ frames := 1, cells := 0, slots := 0, locals := 40 } : Room) (va_Pc [.ref h, .int v1] (yE dC dI cI cJ cB adK adV adA h v i j a b sz)) (va_Qi (xR r2) (yB dC dI cI cJ cB h v i2 j2 a2 b2 (va_A (MW cI cJ cB h v i j a b) sz)) (va_A (MW cI cJ cB h v i j a b) sz)) 0 0 ((va_A (MW cI cJ cB h v i j a b) sz)) := by
  refine Met.ofW (cc := b_Model_moveWord) (maxL := 2) (ret := (some .int)) (by decide) rfl ?_
  intro p e s m args below meth c s₁ B hml hv
  obtain ⟨rfl, hsz, hP, hK, hE, hD0⟩ := hv
  have hx := B.exec
  have hb := B.bytes
  have hr := B.returns
  have hts := atoms_spec (ws := w_Model_moveWord) B.pre
  have htt : ∀ w ∈ tw_T, w.before _ s = true := fun w h => hts w (List.mem_cons_of_mem _ h)
  have hown : s.vm.findClass R_Model = some m.cls := findClass_of_methodNamed B.named
  have hlocks := B.notSynchronized
  subst hsz
  have hD := hD0.self (sz := s.heap.size)
  generalize hAe : (va_A (MW cI cJ cB h v i j a b) s.heap.size) = A at hD hE ⊢
  have hA : ∀ q : Nat, s.heap.size ≤ q → A q := fun q h => by rw [← hAe]; exact Or.inr h
  have hS : va_S A s.heap s.heap [] := va_S.rf
  have hl := lv_entry ([.ref h, .int v1]) (n := 2) (Nat.le_of_ble_eq_true rfl)
  rw [lg_entry_eq]
  generalize (lg_sl ([.ref h, .int v1]) ++ List.replicate (2 - (lg_sl ([.ref h, .int v1])).length) Slot.unset).toArray = ls at hl ⊢
  have hl : lv_has ls 2 [(0, .ref h), (1, .int v1)] := hl
  rw [m_Model_moveWord] at hm
  refine lv_aload_n hx hb d_Model_moveWord_0 rfl (lv_at hl 0 rfl) ?_
  refine va_get (D := (dC, dI)) (ci := 12) (v := .ref ((v 8))) (C := R_Model) (T := F_Model) (N := 127) hx hb htt iw_Model hown hK hP 0 yo_12 rfl 8 (Nat.le_of_ble_eq_true rfl) (htt _ lk_Model_166) (fun _ h9 => h9) yg_8 d_Model_moveWord_1 ?_
  refine lv_iload_n hx hb d_Model_moveWord_4 rfl (lv_at hl 1 rfl) ?_
  obtain ⟨h_1, hm⟩ := ck_some hm
  refine va_iald hx hb hK hP 8 0 ya_8 rfl h_1 d_Model_moveWord_5 ?_
  refine lv_iconst (v := -1) hx hb d_Model_moveWord_6 (by decide) ?_
  refine lv_icmp_ne (tgt := 100) hx hb d_Model_moveWord_7 (by decide) (fun c_2 => ?_) (fun c_2 => ?_)
  · replace hm := if_f c_2 hm
    exact lb_Model_moveWord_100 l dC dI cI cJ cB adK adV adA h v n hx hb hml hown hts hK hE hA hr hlocks _ _ _ _ _ hm _ _ _ hP hD hS (lv_sub hl [0, 1] rfl)
  · replace hm := if_t c_2 hm
    refine lv_aload_n hx hb d_Model_moveWord_10 rfl (lv_at hl 0 rfl) ?_
    refine va_get (D := (dC, dI)) (ci := 12) (v := .ref ((v 1))) (C := R_Model) (T := F_Model) (N := 127) hx hb htt iw_Model hown hK hP 0 yo_12 rfl 1 (Nat.le_of_ble_eq_true rfl) (htt _ lk_Model_67) (fun _ h9 => h9) yg_1 d_Model_moveWord_11 ?_
    refine lv_aload_n hx hb d_Model_moveWord_14 rfl (lv_at hl 0 rfl) ?_
    refine va_get (D := (dC, dI)) (ci := 12) (v := .ref ((v 3))) (C := R_Model) (T := F_Model) (N := 127) hx hb htt iw_Model hown hK hP 0 yo_12 rfl 3 (Nat.le_of_ble_eq_true rfl) (htt _ lk_Model_15) (fun _ h9 => h9) yg_3 d_Model_moveWord_15 ?_
    refine lv_iload_n hx hb d_Model_moveWord_18 rfl (lv_at hl 1 rfl) ?_
    obtain ⟨h_3, hm⟩ := ck_some hm
    refine va_iald hx hb hK hP 3 0 ya_3 rfl h_3 d_Model_moveWord_19 ?_
    refine lv_aload_n hx hb d_Model_moveWord_20 rfl (lv_at hl 0 rfl) ?_
    refine va_get (D := (dC, dI)) (ci := 12) (v := .ref ((v 2))) (C := R_Model) (T := F_Model) (N := 127) hx hb htt iw_Model hown hK hP 0 yo_12 rfl 2 (Nat.le_of_ble_eq_true rfl) (htt _ lk_Model_156) (fun _ h9 => h9) yg_2 d_Model_moveWord_21 ?_
    refine lv_aload_n hx hb d_Model_moveWord_24 rfl (lv_at hl 0 rfl) ?_
    refine va_get (D := (dC, dI)) (ci := 12) (v := .int (i 68)) (C := R_Model) (T := F_Model) (N := 127) hx hb htt iw_Model hown hK hP 0 yo_12 rfl 68 (Nat.le_of_ble_eq_true rfl) (htt _ lk_Model_387) (fun _ h9 => h9) yg_68 d_Model_moveWord_25 ?_
    refine lv_aload_n hx hb d_Model_moveWord_28 rfl (lv_at hl 0 rfl) ?_
    refine va_get (D := (dC, dI)) (ci := 12) (v := .ref ((v 4))) (C := R_Model) (T := F_Model) (N := 127) hx hb htt iw_Model hown hK hP 0 yo_12 rfl 4 (Nat.le_of_ble_eq_true rfl) (htt _ lk_Model_22) (fun _ h9 => h9) yg_4 d_Model_moveWord_29 ?_
    refine lv_iload_n hx hb d_Model_moveWord_32 rfl (lv_at hl 1 rfl) ?_
    obtain ⟨h_4, hm⟩ := ck_some hm
    refine va_iald hx hb hK hP 4 0 ya_4 rfl h_4 d_Model_moveWord_33 ?_
    obtain ⟨h_5a, h_5b, h_5c, h_5d, h_5e, hm⟩ := cy_some hm
    obtain ⟨h_5f, hm⟩ := cyb_some hm
    refine va_copyi hx hb (by rw [hml]; exact hl.1.symm) hown (htt _ lk_Model_334) (htt _ na_arraycopy) (htt _ st_arraycopy) (htt _ ini_System) hK hP hD hS 1 2 2 2 (ty := .byte) ya_1 ya_2 rfl rfl rfl h_5a h_5b h_5c h_5d h_5e h_5f (Nat.le_of_ble_eq_true rfl) (Nat.le_of_ble_eq_true rfl) d_Model_moveWord_34 (fun H locs hP hD hS => ?_)
    obtain ⟨a_6, ea_6⟩ : ∃ y9 : Nat → Nat → Int32, y9 = updA a 2 (va_cpy (a 1) (a 2) (a 3 v1.toNatClampNeg).toNatClampNeg (i 68).toNatClampNeg (a 4 v1.toNatClampNeg).toNatClampNeg) := ⟨_, rfl⟩
    replace hm := ob1_at ea_6 hm
    obtain ⟨hP, hD⟩ := yv_2 ea_6 hP hD
    refine lv_aload_n hx hb d_Model_moveWord_37 rfl (lv_at hl 0 rfl) ?_
    refine va_get (D := (dC, dI)) (ci := 12) (v := .ref ((v 5))) (C := R_Model) (T := F_Model) (N := 127) hx hb htt iw_Model hown hK hP 0 yo_12 rfl 5 (Nat.le_of_ble_eq_true rfl) (htt _ lk_Model_160) (fun _ h9 => h9) yg_5 d_Model_moveWord_38 ?_
    refine lv_aload_n hx hb d_Model_moveWord_41 rfl (lv_at hl 0 rfl) ?_
    refine va_get (D := (dC, dI)) (ci := 12) (v := .int (i 67)) (C := R_Model) (T := F_Model) (N := 127) hx hb htt iw_Model hown hK hP 0 yo_12 rfl 67 (Nat.le_of_ble_eq_true rfl) (htt _ lk_Model_390) (fun _ h9 => h9) yg_67 d_Model_moveWord_42 ?_
    refine lv_aload_n hx hb d_Model_moveWord_45 rfl (lv_at hl 0 rfl) ?_
    refine va_get (D := (dC, dI)) (ci := 12) (v := .int (i 68)) (C := R_Model) (T := F_Model) (N := 127) hx hb htt iw_Model hown hK hP 0 yo_12 rfl 68 (Nat.le_of_ble_eq_true rfl) (htt _ lk_Model_387) (fun _ h9 => h9) yg_68 d_Model_moveWord_46 ?_
    obtain ⟨h_7, hm⟩ := ck_some hm
    refine va_iast hx hb hK hP hD hS 5 0 ya_5 rfl h_7 d_Model_moveWord_49 (fun H locs hP hD hS => ?_)
    obtain ⟨a_8, ea_8⟩ : ∃ y9 : Nat → Nat → Int32, y9 = sv a_6 5 (i 67).toNatClampNeg (i 68) := ⟨_, rfl⟩
    replace hm := ob1_at ea_8 hm
    obtain ⟨hP, hD⟩ := yv_5 ea_8 hP hD
    refine lv_aload_n hx hb d_Model_moveWord_50 rfl (lv_at hl 0 rfl) ?_
    refine va_get (D := (dC, dI)) (ci := 12) (v := .ref ((v 6))) (C := R_Model) (T := F_Model) (N := 127) hx hb htt iw_Model hown hK hP 0 yo_12 rfl 6 (Nat.le_of_ble_eq_true rfl) (htt _ lk_Model_163) (fun _ h9 => h9) yg_6 d_Model_moveWord_51 ?_
    refine lv_aload_n hx hb d_Model_moveWord_54 rfl (lv_at hl 0 rfl) ?_
    refine va_get (D := (dC, dI)) (ci := 12) (v := .int (i 67)) (C := R_Model) (T := F_Model) (N := 127) hx hb htt iw_Model hown hK hP 0 yo_12 rfl 67 (Nat.le_of_ble_eq_true rfl) (htt _ lk_Model_390) (fun _ h9 => h9) yg_67 d_Model_moveWord_55 ?_
    refine lv_aload_n hx hb d_Model_moveWord_58 rfl (lv_at hl 0 rfl) ?_
    refine va_get (D := (dC, dI)) (ci := 12) (v := .ref ((v 4))) (C := R_Model) (T := F_Model) (N := 127) hx hb htt iw_Model hown hK hP 0 yo_12 rfl 4 (Nat.le_of_ble_eq_true rfl) (htt _ lk_Model_22) (fun _ h9 => h9) yg_4 d_Model_moveWord_59 ?_
    refine lv_iload_n hx hb d_Model_moveWord_62 rfl (lv_at hl 1 rfl) ?_
    obtain ⟨h_9, hm⟩ := ck_some hm
    refine va_iald hx hb hK hP 4 0 ya_4 rfl h_9 d_Model_moveWord_63 ?_
    obtain ⟨h_10, hm⟩ := ck_some hm
    refine va_iast hx hb hK hP hD hS 6 0 ya_6 rfl h_10 d_Model_moveWord_64 (fun H locs hP hD hS => ?_)
    obtain ⟨a_11, ea_11⟩ : ∃ y9 : Nat → Nat → Int32, y9 = sv a_8 6 (i 67).toNatClampNeg (a_8 4 v1.toNatClampNeg) := ⟨_, rfl⟩
    replace hm := ob1_at ea_11 hm
    obtain ⟨hP, hD⟩ := yv_6 ea_11 hP hD
    refine lv_aload_n hx hb d_Model_moveWord_65 rfl (lv_at hl 0 rfl) ?_
    refine lv_dup hx hb d_Model_moveWord_66 rfl ?_
    refine va_get (D := (dC, dI)) (ci := 12) (v := .int (i 68)) (C := R_Model) (T := F_Model) (N := 127) hx hb htt iw_Model hown hK hP 0 yo_12 rfl 68 (Nat.le_of_ble_eq_true rfl) (htt _ lk_Model_387) (fun _ h9 => h9) yg_68 d_Model_moveWord_67 ?_
    refine lv_aload_n hx hb d_Model_moveWord_70 rfl (lv_at hl 0 rfl) ?_
    refine va_get (D := (dC, dI)) (ci := 12) (v := .ref ((v 4))) (C := R_Model) (T := F_Model) (N := 127) hx hb htt iw_Model hown hK hP 0 yo_12 rfl 4 (Nat.le_of_ble_eq_true rfl) (htt _ lk_Model_22) (fun _ h9 => h9) yg_4 d_Model_moveWord_71 ?_
    refine lv_iload_n hx hb d_Model_moveWord_74 rfl (lv_at hl 1 rfl) ?_
    obtain ⟨h_12, hm⟩ := ck_some hm
    refine va_iald hx hb hK hP 4 0 ya_4 rfl h_12 d_Model_moveWord_75 ?_
    refine lv_iadd hx hb d_Model_moveWord_76 ?_
    refine lv_topi (fun x_13 ex_13 => ?_)
    replace hm := ob1_at ex_13 hm
    refine va_put (D := (dC, dI)) (ci := 12) (v := .int x_13) (ty := .int) (C := R_Model) (T := F_Model) (N := 127) hx hb htt iw_Model t_Model t_Model_ok n_Model hown hK hP hD hS 0 yo_12 rfl 68 (Nat.le_of_ble_eq_true rfl) (htt _ lk_Model_387) (fun _ h9 => h9) rfl (by decide +kernel) rfl rfl yl_68 d_Model_moveWord_77 (fun H locs hP hD hS => ?_)
    obtain ⟨i_14, ei_14⟩ : ∃ y9 : Nat → Int32, y9 = upd i 68 x_13 := ⟨_, rfl⟩
    replace hm := ob1_at ei_14 hm
    obtain ⟨hP, hD⟩ := yw_68 ei_14 hP hD
    refine lv_aload_n hx hb d_Model_moveWord_80 rfl (lv_at hl 0 rfl) ?_
    refine va_get (D := (dC, dI)) (ci := 12) (v := .ref ((v 8))) (C := R_Model) (T := F_Model) (N := 127) hx hb htt iw_Model hown hK hP 0 yo_12 rfl 8 (Nat.le_of_ble_eq_true rfl) (htt _ lk_Model_166) (fun _ h9 => h9) yg_8 d_Model_moveWord_81 ?_
    refine lv_iload_n hx hb d_Model_moveWord_84 rfl (lv_at hl 1 rfl) ?_
    refine lv_aload_n hx hb d_Model_moveWord_85 rfl (lv_at hl 0 rfl) ?_
    refine va_get (D := (dC, dI)) (ci := 12) (v := .int (i_14 67)) (C := R_Model) (T := F_Model) (N := 127) hx hb htt iw_Model hown hK hP 0 yo_12 rfl 67 (Nat.le_of_ble_eq_true rfl) (htt _ lk_Model_390) (fun _ h9 => h9) yg_67 d_Model_moveWord_86 ?_
    obtain ⟨h_15, hm⟩ := ck_some hm
    refine va_iast hx hb hK hP hD hS 8 0 ya_8 rfl h_15 d_Model_moveWord_89 (fun H locs hP hD hS => ?_)
    obtain ⟨a_16, ea_16⟩ : ∃ y9 : Nat → Nat → Int32, y9 = sv a_11 8 v1.toNatClampNeg (i_14 67) := ⟨_, rfl⟩
    replace hm := ob1_at ea_16 hm
    obtain ⟨hP, hD⟩ := yv_8 ea_16 hP hD
    refine lv_aload_n hx hb d_Model_moveWord_90 rfl (lv_at hl 0 rfl) ?_
    refine lv_dup hx hb d_Model_moveWord_91 rfl ?_
    refine va_get (D := (dC, dI)) (ci := 12) (v := .int (i_14 67)) (C := R_Model) (T := F_Model) (N := 127) hx hb htt iw_Model hown hK hP 0 yo_12 rfl 67 (Nat.le_of_ble_eq_true rfl) (htt _ lk_Model_390) (fun _ h9 => h9) yg_67 d_Model_moveWord_92 ?_
    refine lv_iconst (v := 1) hx hb d_Model_moveWord_95 (by decide) ?_
    refine lv_iadd hx hb d_Model_moveWord_96 ?_
    refine lv_topi (fun x_17 ex_17 => ?_)
    replace hm := ob1_at ex_17 hm
    refine va_put (D := (dC, dI)) (ci := 12) (v := .int x_17) (ty := .int) (C := R_Model) (T := F_Model) (N := 127) hx hb htt iw_Model t_Model t_Model_ok n_Model hown hK hP hD hS 0 yo_12 rfl 67 (Nat.le_of_ble_eq_true rfl) (htt _ lk_Model_390) (fun _ h9 => h9) rfl (by decide +kernel) rfl rfl yl_67 d_Model_moveWord_97 (fun H locs hP hD hS => ?_)
    obtain ⟨i_18, ei_18⟩ : ∃ y9 : Nat → Int32, y9 = upd i_14 67 x_17 := ⟨_, rfl⟩
    replace hm := ob1_at ei_18 hm
    obtain ⟨hP, hD⟩ := yw_67 ei_18 hP hD
    exact lb_Model_moveWord_100 l dC dI cI cJ cB adK adV adA h v n hx hb hml hown hts hK hE hA hr hlocks _ _ _ _ _ hm _ _ _ hP hD hS (lv_sub hl [0, 1] rfl)

def m_Model_turtleRow (n : Nat) (i : Nat → Int32) (j : Nat → Int64) (a : Nat → Nat → Int32) (b : Nat → Nat → Int64) (v1 : Int32) : Option (Nat) := if v1 = ((0 : Int32)) then some 37 else if v1 = ((1 : Int32)) then some 38 else if v1 = ((2 : Int32)) then some 39 else if v1 = ((3 : Int32)) then some 40 else if v1 = ((4 : Int32)) then some 41 else if v1 = ((5 : Int32)) then some 42 else some 43
set_option maxHeartbeats 4000000 in
set_option maxRecDepth 100000 in
theorem x_Model_turtleRow (l : Launch) (dC : Nat → ClassId) (dI : Nat → Nat → Nat) (cI cJ cB : ClassId) (adK adV adA : Nat → Nat) (h : Nat) (v : Nat → Nat) (sz : Nat) (n : Nat) {i : Nat → Int32} {j : Nat → Int64} {a : Nat → Nat → Int32} {b : Nat → Nat → Int64} {v1 : Int32} {r2 : Nat} (hm : m_Model_turtleRow n i j a b v1 = some r2) : Met l y_Model_turtleRow w_Model_turtleRow ({ frames := 0, cells := 0, slots := 0, locals := 0 } : Room) (va_Pc [.ref h, .int v1] (yEr dC dI cI cJ cB adK adV adA h v i j a b sz)) (va_Qr xV (xQs v r2) (xN sz)) 0 0 (xN sz) := by
  refine Met.ofW (cc := b_Model_turtleRow) (maxL := 2) (ret := (some (.array .int))) (by decide) rfl ?_
  intro p e s m args below meth c s₁ B hml hv
  obtain ⟨rfl, hsz, hP, hK, hE⟩ := hv
  have hx := B.exec
  have hb := B.bytes
  have hr := B.returns
  have hts := atoms_spec (ws := w_Model_turtleRow) B.pre
  have htt : ∀ w ∈ tw_T, w.before _ s = true := fun w h => hts w (List.mem_cons_of_mem _ h)
  have hown : s.vm.findClass R_Model = some m.cls := findClass_of_methodNamed B.named
  have hlocks := B.notSynchronized
  subst hsz
  generalize hAe : xN s.heap.size = A at hE ⊢
  have hA : ∀ q : Nat, s.heap.size ≤ q → A q := fun q h => by rw [← hAe]; exact Or.inr h
  have hS : va_S A s.heap s.heap [] := va_S.rf
  have hl := lv_entry ([.ref h, .int v1]) (n := 2) (Nat.le_of_ble_eq_true rfl)
  rw [lg_entry_eq]
  generalize (lg_sl ([.ref h, .int v1]) ++ List.replicate (2 - (lg_sl ([.ref h, .int v1])).length) Slot.unset).toArray = ls at hl ⊢
  have hl : lv_has ls 2 [(0, .ref h), (1, .int v1)] := hl
  rw [m_Model_turtleRow] at hm
  refine lv_iload_n hx hb d_Model_turtleRow_0 rfl (lv_at hl 1 rfl) ?_
  refine lv_if_ne (tgt := 11) hx hb d_Model_turtleRow_1 (by decide) (fun c_1 => ?_) (fun c_1 => ?_)
  · replace hm := if_f c_1 hm
    refine lv_iload_n hx hb d_Model_turtleRow_11 rfl (lv_at hl 1 rfl) ?_
    refine lv_iconst (v := 1) hx hb d_Model_turtleRow_12 (by decide) ?_
    refine lv_icmp_ne (tgt := 23) hx hb d_Model_turtleRow_13 (by decide) (fun c_2 => ?_) (fun c_2 => ?_)
    · replace hm := if_f c_2 hm
      refine lv_iload_n hx hb d_Model_turtleRow_23 rfl (lv_at hl 1 rfl) ?_
      refine lv_iconst (v := 2) hx hb d_Model_turtleRow_24 (by decide) ?_
      refine lv_icmp_ne (tgt := 35) hx hb d_Model_turtleRow_25 (by decide) (fun c_3 => ?_) (fun c_3 => ?_)
      · replace hm := if_f c_3 hm
        refine lv_iload_n hx hb d_Model_turtleRow_35 rfl (lv_at hl 1 rfl) ?_
        refine lv_iconst (v := 3) hx hb d_Model_turtleRow_36 (by decide) ?_
        refine lv_icmp_ne (tgt := 47) hx hb d_Model_turtleRow_37 (by decide) (fun c_4 => ?_) (fun c_4 => ?_)
        · replace hm := if_f c_4 hm
          refine lv_iload_n hx hb d_Model_turtleRow_47 rfl (lv_at hl 1 rfl) ?_
          refine lv_iconst (v := 4) hx hb d_Model_turtleRow_48 (by decide) ?_
          refine lv_icmp_ne (tgt := 59) hx hb d_Model_turtleRow_49 (by decide) (fun c_5 => ?_) (fun c_5 => ?_)
          · replace hm := if_f c_5 hm
            refine lv_iload_n hx hb d_Model_turtleRow_59 rfl (lv_at hl 1 rfl) ?_
            refine lv_iconst (v := 5) hx hb d_Model_turtleRow_60 (by decide) ?_
            refine lv_icmp_ne (tgt := 71) hx hb d_Model_turtleRow_61 (by decide) (fun c_6 => ?_) (fun c_6 => ?_)
            · replace hm := if_f c_6 hm
              refine lv_aload_n hx hb d_Model_turtleRow_71 rfl (lv_at hl 0 rfl) ?_
              refine va_get (D := (dC, dI)) (ci := 12) (v := .ref ((v 43))) (C := R_Model) (T := F_Model) (N := 127) hx hb htt iw_Model hown hK hP 0 yo_12 rfl 43 (Nat.le_of_ble_eq_true rfl) (htt _ lk_Model_219) (fun _ h9 => h9) yg_43 d_Model_turtleRow_72 ?_
              have e3 := re1 hm
              exact W.aret hx hb hr (Or.inr ⟨_, rfl⟩) (Or.inr ⟨_, rfl⟩) (fun t9 ht hW => ⟨⟨(), _, rfl, trivial, congrArg v e3⟩, hS.F ht⟩) hS.2.2 d_Model_turtleRow_75
            · replace hm := if_t c_6 hm
              refine lv_aload_n hx hb d_Model_turtleRow_64 rfl (lv_at hl 0 rfl) ?_
              refine va_get (D := (dC, dI)) (ci := 12) (v := .ref ((v 42))) (C := R_Model) (T := F_Model) (N := 127) hx hb htt iw_Model hown hK hP 0 yo_12 rfl 42 (Nat.le_of_ble_eq_true rfl) (htt _ lk_Model_216) (fun _ h9 => h9) yg_42 d_Model_turtleRow_65 ?_
              refine lv_goto (tgt := 75) hx hb d_Model_turtleRow_68 (by decide) ?_
              have e3 := re1 hm
              exact W.aret hx hb hr (Or.inr ⟨_, rfl⟩) (Or.inr ⟨_, rfl⟩) (fun t9 ht hW => ⟨⟨(), _, rfl, trivial, congrArg v e3⟩, hS.F ht⟩) hS.2.2 d_Model_turtleRow_75
          · replace hm := if_t c_5 hm
            refine lv_aload_n hx hb d_Model_turtleRow_52 rfl (lv_at hl 0 rfl) ?_
            refine va_get (D := (dC, dI)) (ci := 12) (v := .ref ((v 41))) (C := R_Model) (T := F_Model) (N := 127) hx hb htt iw_Model hown hK hP 0 yo_12 rfl 41 (Nat.le_of_ble_eq_true rfl) (htt _ lk_Model_213) (fun _ h9 => h9) yg_41 d_Model_turtleRow_53 ?_
            refine lv_goto (tgt := 75) hx hb d_Model_turtleRow_56 (by decide) ?_
            have e3 := re1 hm
            exact W.aret hx hb hr (Or.inr ⟨_, rfl⟩) (Or.inr ⟨_, rfl⟩) (fun t9 ht hW => ⟨⟨(), _, rfl, trivial, congrArg v e3⟩, hS.F ht⟩) hS.2.2 d_Model_turtleRow_75
        · replace hm := if_t c_4 hm
          refine lv_aload_n hx hb d_Model_turtleRow_40 rfl (lv_at hl 0 rfl) ?_
          refine va_get (D := (dC, dI)) (ci := 12) (v := .ref ((v 40))) (C := R_Model) (T := F_Model) (N := 127) hx hb htt iw_Model hown hK hP 0 yo_12 rfl 40 (Nat.le_of_ble_eq_true rfl) (htt _ lk_Model_210) (fun _ h9 => h9) yg_40 d_Model_turtleRow_41 ?_
          refine lv_goto (tgt := 75) hx hb d_Model_turtleRow_44 (by decide) ?_
          have e3 := re1 hm
          exact W.aret hx hb hr (Or.inr ⟨_, rfl⟩) (Or.inr ⟨_, rfl⟩) (fun t9 ht hW => ⟨⟨(), _, rfl, trivial, congrArg v e3⟩, hS.F ht⟩) hS.2.2 d_Model_turtleRow_75
      · replace hm := if_t c_3 hm
        refine lv_aload_n hx hb d_Model_turtleRow_28 rfl (lv_at hl 0 rfl) ?_
        refine va_get (D := (dC, dI)) (ci := 12) (v := .ref ((v 39))) (C := R_Model) (T := F_Model) (N := 127) hx hb htt iw_Model hown hK hP 0 yo_12 rfl 39 (Nat.le_of_ble_eq_true rfl) (htt _ lk_Model_207) (fun _ h9 => h9) yg_39 d_Model_turtleRow_29 ?_
        refine lv_goto (tgt := 75) hx hb d_Model_turtleRow_32 (by decide) ?_
        have e3 := re1 hm
        exact W.aret hx hb hr (Or.inr ⟨_, rfl⟩) (Or.inr ⟨_, rfl⟩) (fun t9 ht hW => ⟨⟨(), _, rfl, trivial, congrArg v e3⟩, hS.F ht⟩) hS.2.2 d_Model_turtleRow_75
    · replace hm := if_t c_2 hm
      refine lv_aload_n hx hb d_Model_turtleRow_16 rfl (lv_at hl 0 rfl) ?_
      refine va_get (D := (dC, dI)) (ci := 12) (v := .ref ((v 38))) (C := R_Model) (T := F_Model) (N := 127) hx hb htt iw_Model hown hK hP 0 yo_12 rfl 38 (Nat.le_of_ble_eq_true rfl) (htt _ lk_Model_204) (fun _ h9 => h9) yg_38 d_Model_turtleRow_17 ?_
      refine lv_goto (tgt := 75) hx hb d_Model_turtleRow_20 (by decide) ?_
      have e3 := re1 hm
      exact W.aret hx hb hr (Or.inr ⟨_, rfl⟩) (Or.inr ⟨_, rfl⟩) (fun t9 ht hW => ⟨⟨(), _, rfl, trivial, congrArg v e3⟩, hS.F ht⟩) hS.2.2 d_Model_turtleRow_75
  · replace hm := if_t c_1 hm
    refine lv_aload_n hx hb d_Model_turtleRow_4 rfl (lv_at hl 0 rfl) ?_
    refine va_get (D := (dC, dI)) (ci := 12) (v := .ref ((v 37))) (C := R_Model) (T := F_Model) (N := 127) hx hb htt iw_Model hown hK hP 0 yo_12 rfl 37 (Nat.le_of_ble_eq_true rfl) (htt _ lk_Model_201) (fun _ h9 => h9) yg_37 d_Model_turtleRow_5 ?_
    refine lv_goto (tgt := 75) hx hb d_Model_turtleRow_8 (by decide) ?_
    have e3 := re1 hm
    exact W.aret hx hb hr (Or.inr ⟨_, rfl⟩) (Or.inr ⟨_, rfl⟩) (fun t9 ht hW => ⟨⟨(), _, rfl, trivial, congrArg v e3⟩, hS.F ht⟩) hS.2.2 d_Model_turtleRow_75

def m_Model_fails (n : Nat) (i : Nat → Int32) (j : Nat → Int64) (a : Nat → Nat → Int32) (b : Nat → Nat → Int64) (v1 : Int32) : Option ((Nat → Int32) × (Nat → Int64) × (Nat → Nat → Int32) × (Nat → Nat → Int64) × Int64) := ob1 (upd i 102 2 : Nat → Int32) (fun i_1 => ob1 (upd i_1 126 v1 : Nat → Int32) (fun i_2 => some (i_2, j, a, b, 3)))
set_option maxHeartbeats 4000000 in
set_option maxRecDepth 100000 in
theorem x_Model_fails (l : Launch) (dC : Nat → ClassId) (dI : Nat → Nat → Nat) (cI cJ cB : ClassId) (adK adV adA : Nat → Nat) (h : Nat) (v : Nat → Nat) (sz : Nat) (n : Nat) {i : Nat → Int32} {j : Nat → Int64} {a : Nat → Nat → Int32} {b : Nat → Nat → Int64} {v1 : Int32} {i2 : Nat → Int32} {j2 : Nat → Int64} {a2 : Nat → Nat → Int32} {b2 : Nat → Nat → Int64} {r2 : Int64} (hm : m_Model_fails n i j a b v1 = some (i2, j2, a2, b2, r2)) : Met l y_Model_fails w_Model_fails ({ frames := 0, cells := 0, slots := 0, locals := 0 } : Room) (va_Pc [.ref h, .int v1] (yE dC dI cI cJ cB adK adV adA h v i j a b sz)) (va_Ql (xR r2) (yB dC dI cI cJ cB h v i2 j2 a2 b2 (va_A (MW cI cJ cB h v i j a b) sz)) (va_A (MW cI cJ cB h v i j a b) sz)) 0 0 ((va_A (MW cI cJ cB h v i j a b) sz)) := by
  refine Met.ofW (cc := b_Model_fails) (maxL := 2) (ret := (some .long)) (by decide) rfl ?_
  intro p e s m args below meth c s₁ B hml hv
  obtain ⟨rfl, hsz, hP, hK, hE, hD0⟩ := hv
  have hx := B.exec
  have hb := B.bytes
  have hr := B.returns
  have hts := atoms_spec (ws := w_Model_fails) B.pre
  have htt : ∀ w ∈ tw_T, w.before _ s = true := fun w h => hts w (List.mem_cons_of_mem _ h)
  have hown : s.vm.findClass R_Model = some m.cls := findClass_of_methodNamed B.named
  have hlocks := B.notSynchronized
  subst hsz
  have hD := hD0.self (sz := s.heap.size)
  generalize hAe : (va_A (MW cI cJ cB h v i j a b) s.heap.size) = A at hD hE ⊢
  have hA : ∀ q : Nat, s.heap.size ≤ q → A q := fun q h => by rw [← hAe]; exact Or.inr h
  have hS : va_S A s.heap s.heap [] := va_S.rf
  have hl := lv_entry ([.ref h, .int v1]) (n := 2) (Nat.le_of_ble_eq_true rfl)
  rw [lg_entry_eq]
  generalize (lg_sl ([.ref h, .int v1]) ++ List.replicate (2 - (lg_sl ([.ref h, .int v1])).length) Slot.unset).toArray = ls at hl ⊢
  have hl : lv_has ls 2 [(0, .ref h), (1, .int v1)] := hl
  rw [m_Model_fails] at hm
  refine lv_aload_n hx hb d_Model_fails_0 rfl (lv_at hl 0 rfl) ?_
  refine lv_iconst (v := 2) hx hb d_Model_fails_1 (by decide) ?_
  refine va_put (D := (dC, dI)) (ci := 12) (v := .int 2) (ty := .int) (C := R_Model) (T := F_Model) (N := 127) hx hb htt iw_Model t_Model t_Model_ok n_Model hown hK hP hD hS 0 yo_12 rfl 102 (Nat.le_of_ble_eq_true rfl) (htt _ lk_Model_559) (fun _ h9 => h9) rfl (by decide +kernel) rfl rfl yl_102 d_Model_fails_2 (fun H locs hP hD hS => ?_)
  obtain ⟨i_1, ei_1⟩ : ∃ y9 : Nat → Int32, y9 = upd i 102 2 := ⟨_, rfl⟩
  replace hm := ob1_at ei_1 hm
  obtain ⟨hP, hD⟩ := yw_102 ei_1 hP hD
  refine lv_aload_n hx hb d_Model_fails_5 rfl (lv_at hl 0 rfl) ?_
  refine lv_iload_n hx hb d_Model_fails_6 rfl (lv_at hl 1 rfl) ?_
  refine va_put (D := (dC, dI)) (ci := 12) (v := .int v1) (ty := .int) (C := R_Model) (T := F_Model) (N := 127) hx hb htt iw_Model t_Model t_Model_ok n_Model hown hK hP hD hS 0 yo_12 rfl 126 (Nat.le_of_ble_eq_true rfl) (htt _ lk_Model_599) (fun _ h9 => h9) rfl (by decide +kernel) rfl rfl yl_126 d_Model_fails_7 (fun H locs hP hD hS => ?_)
  obtain ⟨i_2, ei_2⟩ : ∃ y9 : Nat → Int32, y9 = upd i_1 126 v1 := ⟨_, rfl⟩
  replace hm := ob1_at ei_2 hm
  obtain ⟨hP, hD⟩ := yw_126 ei_2 hP hD
  refine lv_ldc2 (v := 3) hx hb hown (htt _ lk_Model_7) d_Model_fails_10 ?_
  obtain ⟨e1i, e1j, e1a, e1b, e3⟩ := re4m hm
  obtain ⟨hP, hD⟩ := y_eq e1i e1j e1a e1b hP hD
  exact W.lret hx hb hr (fun t9 ht hW => ⟨⟨_, (), rfl, e3.symm, by rw [ht]; exact hP, hD⟩, hS.F ht⟩) hS.2.2 d_Model_fails_13

def m_Model_begins (n : Nat) (i : Nat → Int32) (j : Nat → Int64) (a : Nat → Nat → Int32) (b : Nat → Nat → Int64)  : Option ((Nat → Int32) × (Nat → Int64) × (Nat → Nat → Int32) × (Nat → Nat → Int64) × Int32) := if ((i 93)) = ((20000 : Int32)) then ob1 (upd i 102 6 : Nat → Int32) (fun i_6 => ob1 (upd i_6 126 13 : Nat → Int32) (fun i_7 => some (i_7, j, a, b, 0))) else if ((lg_cmp ((i 93).toInt64) (j 108))) < ((0 : Int32)) then ob1 ((i 93) + 1 : Int32) (fun x_3 => ob1 (upd i 93 x_3 : Nat → Int32) (fun i_4 => some (i_4, j, a, b, 1))) else ob1 (upd i 102 1 : Nat → Int32) (fun i_5 => some (i_5, j, a, b, 0))
set_option maxHeartbeats 4000000 in
set_option maxRecDepth 100000 in
theorem x_Model_begins (l : Launch) (dC : Nat → ClassId) (dI : Nat → Nat → Nat) (cI cJ cB : ClassId) (adK adV adA : Nat → Nat) (h : Nat) (v : Nat → Nat) (sz : Nat) (n : Nat) {i : Nat → Int32} {j : Nat → Int64} {a : Nat → Nat → Int32} {b : Nat → Nat → Int64}  {i2 : Nat → Int32} {j2 : Nat → Int64} {a2 : Nat → Nat → Int32} {b2 : Nat → Nat → Int64} {r2 : Int32} (hm : m_Model_begins n i j a b = some (i2, j2, a2, b2, r2)) : Met l y_Model_begins w_Model_begins ({ frames := 0, cells := 0, slots := 0, locals := 0 } : Room) (va_Pc [.ref h] (yE dC dI cI cJ cB adK adV adA h v i j a b sz)) (va_Qi (xR r2) (yB dC dI cI cJ cB h v i2 j2 a2 b2 (va_A (MW cI cJ cB h v i j a b) sz)) (va_A (MW cI cJ cB h v i j a b) sz)) 0 0 ((va_A (MW cI cJ cB h v i j a b) sz)) := by
  refine Met.ofW (cc := b_Model_begins) (maxL := 1) (ret := (some .boolean)) (by decide) rfl ?_
  intro p e s m args below meth c s₁ B hml hv
  obtain ⟨rfl, hsz, hP, hK, hE, hD0⟩ := hv
  have hx := B.exec
  have hb := B.bytes
  have hr := B.returns
  have hts := atoms_spec (ws := w_Model_begins) B.pre
  have htt : ∀ w ∈ tw_T, w.before _ s = true := fun w h => hts w (List.mem_cons_of_mem _ h)
  have hown : s.vm.findClass R_Model = some m.cls := findClass_of_methodNamed B.named
  have hlocks := B.notSynchronized
  subst hsz
  have hD := hD0.self (sz := s.heap.size)
  generalize hAe : (va_A (MW cI cJ cB h v i j a b) s.heap.size) = A at hD hE ⊢
  have hA : ∀ q : Nat, s.heap.size ≤ q → A q := fun q h => by rw [← hAe]; exact Or.inr h
  have hS : va_S A s.heap s.heap [] := va_S.rf
  have hl := lv_entry ([.ref h]) (n := 1) (Nat.le_of_ble_eq_true rfl)
  rw [lg_entry_eq]
  generalize (lg_sl ([.ref h]) ++ List.replicate (1 - (lg_sl ([.ref h])).length) Slot.unset).toArray = ls at hl ⊢
  have hl : lv_has ls 1 [(0, .ref h)] := hl
  rw [m_Model_begins] at hm
  refine lv_aload_n hx hb d_Model_begins_0 rfl (lv_at hl 0 rfl) ?_
  refine va_get (D := (dC, dI)) (ci := 12) (v := .int (i 93)) (C := R_Model) (T := F_Model) (N := 127) hx hb htt iw_Model hown hK hP 0 yo_12 rfl 93 (Nat.le_of_ble_eq_true rfl) (htt _ lk_Model_523) (fun _ h9 => h9) yg_93 d_Model_begins_1 ?_
  refine lv_sipush (v := 20000) hx hb d_Model_begins_4 (by decide) ?_
  refine lv_icmp_ne (tgt := 24) hx hb d_Model_begins_7 (by decide) (fun c_1 => ?_) (fun c_1 => ?_)
  · replace hm := if_f c_1 hm
    refine lv_aload_n hx hb d_Model_begins_24 rfl (lv_at hl 0 rfl) ?_
    refine va_get (D := (dC, dI)) (ci := 12) (v := .int (i 93)) (C := R_Model) (T := F_Model) (N := 127) hx hb htt iw_Model hown hK hP 0 yo_12 rfl 93 (Nat.le_of_ble_eq_true rfl) (htt _ lk_Model_523) (fun _ h9 => h9) yg_93 d_Model_begins_25 ?_
    refine lv_i2l hx hb d_Model_begins_28 rfl ?_
    refine lv_aload_n hx hb d_Model_begins_29 rfl (lv_at hl 0 rfl) ?_
    refine va_get (D := (dC, dI)) (ci := 12) (v := .long (j 108)) (C := R_Model) (T := F_Model) (N := 127) hx hb htt iw_Model hown hK hP 0 yo_12 rfl 108 (Nat.le_of_ble_eq_true rfl) (htt _ lk_Model_547) (fun _ h9 => h9) yg_108 d_Model_begins_30 ?_
    refine W.lcmp hx hb d_Model_begins_33 ?_
    refine lv_if_lt (tgt := 44) hx hb d_Model_begins_34 (by decide) (fun c_2 => ?_) (fun c_2 => ?_)
    · replace hm := if_t c_2 hm
      refine lv_aload_n hx hb d_Model_begins_44 rfl (lv_at hl 0 rfl) ?_
      refine lv_dup hx hb d_Model_begins_45 rfl ?_
      refine va_get (D := (dC, dI)) (ci := 12) (v := .int (i 93)) (C := R_Model) (T := F_Model) (N := 127) hx hb htt iw_Model hown hK hP 0 yo_12 rfl 93 (Nat.le_of_ble_eq_true rfl) (htt _ lk_Model_523) (fun _ h9 => h9) yg_93 d_Model_begins_46 ?_
      refine lv_iconst (v := 1) hx hb d_Model_begins_49 (by decide) ?_
      refine lv_iadd hx hb d_Model_begins_50 ?_
      refine lv_topi (fun x_3 ex_3 => ?_)
      replace hm := ob1_at ex_3 hm
      refine va_put (D := (dC, dI)) (ci := 12) (v := .int x_3) (ty := .int) (C := R_Model) (T := F_Model) (N := 127) hx hb htt iw_Model t_Model t_Model_ok n_Model hown hK hP hD hS 0 yo_12 rfl 93 (Nat.le_of_ble_eq_true rfl) (htt _ lk_Model_523) (fun _ h9 => h9) rfl (by decide +kernel) rfl rfl yl_93 d_Model_begins_51 (fun H locs hP hD hS => ?_)
      obtain ⟨i_4, ei_4⟩ : ∃ y9 : Nat → Int32, y9 = upd i 93 x_3 := ⟨_, rfl⟩
      replace hm := ob1_at ei_4 hm
      obtain ⟨hP, hD⟩ := yw_93 ei_4 hP hD
      refine lv_iconst (v := 1) hx hb d_Model_begins_54 (by decide) ?_
      obtain ⟨e1i, e1j, e1a, e1b, e3⟩ := re4m hm
      obtain ⟨hP, hD⟩ := y_eq e1i e1j e1a e1b hP hD
      exact W.zret hx hb hr (by decide) (fun t9 ht hW => ⟨⟨_, (), rfl, e3.symm, by rw [ht]; exact hP, hD⟩, hS.F ht⟩) hS.2.2 d_Model_begins_55
    · replace hm := if_f c_2 hm
      refine lv_aload_n hx hb d_Model_begins_37 rfl (lv_at hl 0 rfl) ?_
      refine lv_iconst (v := 1) hx hb d_Model_begins_38 (by decide) ?_
      refine va_put (D := (dC, dI)) (ci := 12) (v := .int 1) (ty := .int) (C := R_Model) (T := F_Model) (N := 127) hx hb htt iw_Model t_Model t_Model_ok n_Model hown hK hP hD hS 0 yo_12 rfl 102 (Nat.le_of_ble_eq_true rfl) (htt _ lk_Model_559) (fun _ h9 => h9) rfl (by decide +kernel) rfl rfl yl_102 d_Model_begins_39 (fun H locs hP hD hS => ?_)
      obtain ⟨i_5, ei_5⟩ : ∃ y9 : Nat → Int32, y9 = upd i 102 1 := ⟨_, rfl⟩
      replace hm := ob1_at ei_5 hm
      obtain ⟨hP, hD⟩ := yw_102 ei_5 hP hD
      refine lv_iconst (v := 0) hx hb d_Model_begins_42 (by decide) ?_
      obtain ⟨e1i, e1j, e1a, e1b, e3⟩ := re4m hm
      obtain ⟨hP, hD⟩ := y_eq e1i e1j e1a e1b hP hD
      exact W.zret hx hb hr (by decide) (fun t9 ht hW => ⟨⟨_, (), rfl, e3.symm, by rw [ht]; exact hP, hD⟩, hS.F ht⟩) hS.2.2 d_Model_begins_43
  · replace hm := if_t c_1 hm
    refine lv_aload_n hx hb d_Model_begins_10 rfl (lv_at hl 0 rfl) ?_
    refine lv_bipush (v := 6) hx hb d_Model_begins_11 (by decide) ?_
    refine va_put (D := (dC, dI)) (ci := 12) (v := .int 6) (ty := .int) (C := R_Model) (T := F_Model) (N := 127) hx hb htt iw_Model t_Model t_Model_ok n_Model hown hK hP hD hS 0 yo_12 rfl 102 (Nat.le_of_ble_eq_true rfl) (htt _ lk_Model_559) (fun _ h9 => h9) rfl (by decide +kernel) rfl rfl yl_102 d_Model_begins_13 (fun H locs hP hD hS => ?_)
    obtain ⟨i_6, ei_6⟩ : ∃ y9 : Nat → Int32, y9 = upd i 102 6 := ⟨_, rfl⟩
    replace hm := ob1_at ei_6 hm
    obtain ⟨hP, hD⟩ := yw_102 ei_6 hP hD
    refine lv_aload_n hx hb d_Model_begins_16 rfl (lv_at hl 0 rfl) ?_
    refine lv_bipush (v := 13) hx hb d_Model_begins_17 (by decide) ?_
    refine va_put (D := (dC, dI)) (ci := 12) (v := .int 13) (ty := .int) (C := R_Model) (T := F_Model) (N := 127) hx hb htt iw_Model t_Model t_Model_ok n_Model hown hK hP hD hS 0 yo_12 rfl 126 (Nat.le_of_ble_eq_true rfl) (htt _ lk_Model_599) (fun _ h9 => h9) rfl (by decide +kernel) rfl rfl yl_126 d_Model_begins_19 (fun H locs hP hD hS => ?_)
    obtain ⟨i_7, ei_7⟩ : ∃ y9 : Nat → Int32, y9 = upd i_6 126 13 := ⟨_, rfl⟩
    replace hm := ob1_at ei_7 hm
    obtain ⟨hP, hD⟩ := yw_126 ei_7 hP hD
    refine lv_iconst (v := 0) hx hb d_Model_begins_22 (by decide) ?_
    obtain ⟨e1i, e1j, e1a, e1b, e3⟩ := re4m hm
    obtain ⟨hP, hD⟩ := y_eq e1i e1j e1a e1b hP hD
    exact W.zret hx hb hr (by decide) (fun t9 ht hW => ⟨⟨_, (), rfl, e3.symm, by rw [ht]; exact hP, hD⟩, hS.F ht⟩) hS.2.2 d_Model_begins_23

def m_Model_arity (n : Nat) (i : Nat → Int32) (j : Nat → Int64) (a : Nat → Nat → Int32) (b : Nat → Nat → Int64) (v0 : Int32) : Option (Int32) := cs v0 (tw_len.getD 16 0) (some ((tw_bt 16 v0.toNatClampNeg &&& 255) - 48))
set_option maxHeartbeats 4000000 in
set_option maxRecDepth 100000 in
theorem x_Model_arity (l : Launch) (dC : Nat → ClassId) (dI : Nat → Nat → Nat) (cI cJ cB : ClassId) (adK adV adA : Nat → Nat) (h : Nat) (v : Nat → Nat) (sz : Nat) (n : Nat) {i : Nat → Int32} {j : Nat → Int64} {a : Nat → Nat → Int32} {b : Nat → Nat → Int64} {v0 : Int32} {r2 : Int32} (hm : m_Model_arity n i j a b v0 = some r2) : Met l y_Model_arity w_Model_arity ({ frames := 4, cells := 0, slots := 0, locals := 85 } : Room) (va_Pc [.int v0] (yEr dC dI cI cJ cB adK adV adA h v i j a b sz)) (va_Qi (xR r2) xT (xN sz)) 0 0 (xN sz) := by
  refine Met.ofW (cc := b_Model_arity) (maxL := 1) (ret := (some .int)) (by decide) rfl ?_
  intro p e s m args below meth c s₁ B hml hv
  obtain ⟨rfl, hsz, hP, hK, hE⟩ := hv
  have hx := B.exec
  have hb := B.bytes
  have hr := B.returns
  have hts := atoms_spec (ws := w_Model_arity) B.pre
  have htt : ∀ w ∈ tw_T, w.before _ s = true := fun w h => hts w (List.mem_cons_of_mem _ h)
  have hown : s.vm.findClass R_Model = some m.cls := findClass_of_methodNamed B.named
  have hlocks := B.notSynchronized
  subst hsz
  generalize hAe : xN s.heap.size = A at hE ⊢
  have hA : ∀ q : Nat, s.heap.size ≤ q → A q := fun q h => by rw [← hAe]; exact Or.inr h
  have hS : va_S A s.heap s.heap [] := va_S.rf
  have hl := lv_entry ([.int v0]) (n := 1) (Nat.le_of_ble_eq_true rfl)
  rw [lg_entry_eq]
  generalize (lg_sl ([.int v0]) ++ List.replicate (1 - (lg_sl ([.int v0])).length) Slot.unset).toArray = ls at hl ⊢
  have hl : lv_has ls 1 [(0, .int v0)] := hl
  rw [m_Model_arity] at hm
  refine tw_ldcwS hx hb hown (show vk_R "TurtleWorldModel" 670 _ (adK 16) s from hE.ref 16 (by decide)) d_Model_arity_0 ?_
  refine lv_iload_n hx hb d_Model_arity_3 rfl (lv_at hl 0 rfl) ?_
  have hFc := x_free0 hS hA
  obtain ⟨h_1a, h_1b, hm⟩ := cs_some hm
  refine va_calli (va_runV (As := [.int v0]) (rest := []) ⟨hx, hb, hml, hown, hts⟩ (c_String_charAt l dC dI s.heap.size (adK 16) (adV 16) (tw_len.getD 16 0) (tw_bt 16) v0 h_1a h_1b) (cwV 1 hts (tw_GV tw_cons cw_String_charAt lk_Model_81 in_String_charAt sel_String_charAt ini_String) rfl rfl rfl ⟨rfl, hd_String_charAt⟩ ⟨Nat.le_of_ble_eq_true rfl, Nat.le_of_ble_eq_true rfl⟩) (ypStr hK hS (hE.str 16 (by decide)) hFc) rfl rfl hl.1 rfl (lv_room (Nat.le_of_ble_eq_true rfl)) d_Model_arity_4 ⟨Nat.le_of_ble_eq_true rfl, Nat.le_of_ble_eq_true rfl⟩) hS (fun q _ h => hFc q h) hFc (fun r9 u9 t9 H locs ht hvm e9 hB hz1 hk1 hS => ?_)
  have e9 : r9 = tw_bt 16 v0.toNatClampNeg &&& 255 := e9
  subst e9
  replace hP := x_keep hP hk1
  clear hFc hk1 hz1 hvm hB ht
  refine lv_bipush (v := 48) hx hb d_Model_arity_7 (by decide) ?_
  refine lv_isub hx hb d_Model_arity_9 ?_
  have e3 := re1 hm
  exact W.iret hx hb hr (fun t9 ht hW => ⟨⟨_, (), rfl, e3.symm, trivial⟩, hS.F ht⟩) hS.2.2 d_Model_arity_10

def m_Model_kinds (n : Nat) (i : Nat → Int32) (j : Nat → Int64) (a : Nat → Nat → Int32) (b : Nat → Nat → Int64) (v0 : Int32) : Option (Nat) := if v0 = 0 then some 17 else if v0 = 1 then some 17 else if v0 = 2 then some 17 else if v0 = 3 then some 17 else if v0 = 4 then some 17 else if v0 = 5 then some 33 else if v0 = 6 then some 33 else if v0 = 7 then some 17 else if v0 = 8 then some 33 else if v0 = 9 then some 18 else if v0 = 10 then some 33 else if v0 = 11 then some 19 else if v0 = 12 then some 33 else if v0 = 13 then some 33 else if v0 = 14 then some 33 else if v0 = 15 then some 33 else if v0 = 16 then some 33 else if v0 = 17 then some 33 else if v0 = 18 then some 20 else if v0 = 19 then some 18 else if v0 = 20 then some 18 else if v0 = 21 then some 18 else if v0 = 22 then some 18 else if v0 = 23 then some 18 else if v0 = 24 then some 17 else if v0 = 25 then some 18 else if v0 = 26 then some 18 else if v0 = 27 then some 17 else if v0 = 28 then some 21 else if v0 = 29 then some 21 else if v0 = 30 then some 22 else if v0 = 31 then some 33 else if v0 = 32 then some 33 else if v0 = 33 then some 33 else if v0 = 34 then some 33 else if v0 = 35 then some 33 else if v0 = 36 then some 23 else if v0 = 37 then some 23 else if v0 = 38 then some 23 else if v0 = 39 then some 23 else if v0 = 40 then some 23 else if v0 = 41 then some 24 else if v0 = 42 then some 25 else if v0 = 43 then some 25 else if v0 = 44 then some 33 else if v0 = 45 then some 33 else if v0 = 46 then some 25 else if v0 = 47 then some 23 else if v0 = 48 then some 33 else if v0 = 49 then some 26 else if v0 = 50 then some 27 else if v0 = 51 then some 27 else if v0 = 52 then some 27 else if v0 = 53 then some 28 else if v0 = 54 then some 27 else if v0 = 55 then some 27 else if v0 = 56 then some 23 else if v0 = 57 then some 29 else if v0 = 58 then some 30 else if v0 = 59 then some 24 else if v0 = 60 then some 33 else if v0 = 61 then some 31 else if v0 = 62 then some 31 else if v0 = 63 then some 33 else if v0 = 64 then some 31 else if v0 = 65 then some 32 else if v0 = 66 then some 33 else if v0 = 67 then some 33 else if v0 = 68 then some 28 else if v0 = 69 then some 27 else some 33
set_option maxHeartbeats 4000000 in
set_option maxRecDepth 100000 in
theorem x_Model_kinds (l : Launch) (dC : Nat → ClassId) (dI : Nat → Nat → Nat) (cI cJ cB : ClassId) (adK adV adA : Nat → Nat) (h : Nat) (v : Nat → Nat) (sz : Nat) (n : Nat) {i : Nat → Int32} {j : Nat → Int64} {a : Nat → Nat → Int32} {b : Nat → Nat → Int64} {v0 : Int32} {r2 : Nat} (hm : m_Model_kinds n i j a b v0 = some r2) : Met l y_Model_kinds w_Model_kinds ({ frames := 0, cells := 0, slots := 0, locals := 0 } : Room) (va_Pc [.int v0] (yEr dC dI cI cJ cB adK adV adA h v i j a b sz)) (va_Qr xV (xQs adK r2) (xN sz)) 0 0 (xN sz) := by
  refine Met.ofW (cc := b_Model_kinds) (maxL := 1) (ret := (some (.object "java/lang/String"))) (by decide) rfl ?_
  intro p e s m args below meth c s₁ B hml hv
  obtain ⟨rfl, hsz, hP, hK, hE⟩ := hv
  have hx := B.exec
  have hb := B.bytes
  have hr := B.returns
  have hts := atoms_spec (ws := w_Model_kinds) B.pre
  have htt : ∀ w ∈ tw_T, w.before _ s = true := fun w h => hts w (List.mem_cons_of_mem _ h)
  have hown : s.vm.findClass R_Model = some m.cls := findClass_of_methodNamed B.named
  have hlocks := B.notSynchronized
  subst hsz
  generalize hAe : xN s.heap.size = A at hE ⊢
  have hA : ∀ q : Nat, s.heap.size ≤ q → A q := fun q h => by rw [← hAe]; exact Or.inr h
  have hS : va_S A s.heap s.heap [] := va_S.rf
  have hl := lv_entry ([.int v0]) (n := 1) (Nat.le_of_ble_eq_true rfl)
  rw [lg_entry_eq]
  generalize (lg_sl ([.int v0]) ++ List.replicate (1 - (lg_sl ([.int v0])).length) Slot.unset).toArray = ls at hl ⊢
  have hl : lv_has ls 1 [(0, .int v0)] := hl
  rw [m_Model_kinds] at hm
  refine lv_iload_n hx hb d_Model_kinds_0 rfl (lv_at hl 0 rfl) ?_
  rcases Classical.em (v0 = 0) with c_1 | c_1
  · replace hm := if_t c_1 hm
    refine lv_tableIn (x := v0) (tgt := 296) hx hb d_Model_kinds_1 (by rw [c_1]; decide) (by rw [c_1]; decide) (by rw [c_1]; rfl) (by decide) ?_
    refine tw_ldcwS hx hb hown (show vk_R "TurtleWorldModel" 672 _ (adK 17) s from hE.ref 17 (by decide)) d_Model_kinds_296 ?_
    have e3 := re1 hm
    exact W.aret hx hb hr (Or.inl ⟨_, rfl⟩) (Or.inr ⟨_, rfl⟩) (fun t9 ht hW => ⟨⟨(), _, rfl, trivial, congrArg adK e3⟩, hS.F ht⟩) hS.2.2 d_Model_kinds_299
  replace hm := if_f c_1 hm
  rcases Classical.em (v0 = 1) with c_2 | c_2
  · replace hm := if_t c_2 hm
    refine lv_tableIn (x := v0) (tgt := 296) hx hb d_Model_kinds_1 (by rw [c_2]; decide) (by rw [c_2]; decide) (by rw [c_2]; rfl) (by decide) ?_
    refine tw_ldcwS hx hb hown (show vk_R "TurtleWorldModel" 672 _ (adK 17) s from hE.ref 17 (by decide)) d_Model_kinds_296 ?_
    have e3 := re1 hm
    exact W.aret hx hb hr (Or.inl ⟨_, rfl⟩) (Or.inr ⟨_, rfl⟩) (fun t9 ht hW => ⟨⟨(), _, rfl, trivial, congrArg adK e3⟩, hS.F ht⟩) hS.2.2 d_Model_kinds_299
  replace hm := if_f c_2 hm
  rcases Classical.em (v0 = 2) with c_3 | c_3
  · replace hm := if_t c_3 hm
    refine lv_tableIn (x := v0) (tgt := 296) hx hb d_Model_kinds_1 (by rw [c_3]; decide) (by rw [c_3]; decide) (by rw [c_3]; rfl) (by decide) ?_
    refine tw_ldcwS hx hb hown (show vk_R "TurtleWorldModel" 672 _ (adK 17) s from hE.ref 17 (by decide)) d_Model_kinds_296 ?_
    have e3 := re1 hm
    exact W.aret hx hb hr (Or.inl ⟨_, rfl⟩) (Or.inr ⟨_, rfl⟩) (fun t9 ht hW => ⟨⟨(), _, rfl, trivial, congrArg adK e3⟩, hS.F ht⟩) hS.2.2 d_Model_kinds_299
  replace hm := if_f c_3 hm
  rcases Classical.em (v0 = 3) with c_4 | c_4
  · replace hm := if_t c_4 hm
    refine lv_tableIn (x := v0) (tgt := 296) hx hb d_Model_kinds_1 (by rw [c_4]; decide) (by rw [c_4]; decide) (by rw [c_4]; rfl) (by decide) ?_
    refine tw_ldcwS hx hb hown (show vk_R "TurtleWorldModel" 672 _ (adK 17) s from hE.ref 17 (by decide)) d_Model_kinds_296 ?_
    have e3 := re1 hm
    exact W.aret hx hb hr (Or.inl ⟨_, rfl⟩) (Or.inr ⟨_, rfl⟩) (fun t9 ht hW => ⟨⟨(), _, rfl, trivial, congrArg adK e3⟩, hS.F ht⟩) hS.2.2 d_Model_kinds_299
  replace hm := if_f c_4 hm
  rcases Classical.em (v0 = 4) with c_5 | c_5
  · replace hm := if_t c_5 hm
    refine lv_tableIn (x := v0) (tgt := 296) hx hb d_Model_kinds_1 (by rw [c_5]; decide) (by rw [c_5]; decide) (by rw [c_5]; rfl) (by decide) ?_
    refine tw_ldcwS hx hb hown (show vk_R "TurtleWorldModel" 672 _ (adK 17) s from hE.ref 17 (by decide)) d_Model_kinds_296 ?_
    have e3 := re1 hm
    exact W.aret hx hb hr (Or.inl ⟨_, rfl⟩) (Or.inr ⟨_, rfl⟩) (fun t9 ht hW => ⟨⟨(), _, rfl, trivial, congrArg adK e3⟩, hS.F ht⟩) hS.2.2 d_Model_kinds_299
  replace hm := if_f c_5 hm
  rcases Classical.em (v0 = 5) with c_6 | c_6
  · replace hm := if_t c_6 hm
    refine lv_tableIn (x := v0) (tgt := 360) hx hb d_Model_kinds_1 (by rw [c_6]; decide) (by rw [c_6]; decide) (by rw [c_6]; rfl) (by decide) ?_
    refine tw_ldcwS hx hb hown (show vk_R "TurtleWorldModel" 704 _ (adK 33) s from hE.ref 33 (by decide)) d_Model_kinds_360 ?_
    have e3 := re1 hm
    exact W.aret hx hb hr (Or.inl ⟨_, rfl⟩) (Or.inr ⟨_, rfl⟩) (fun t9 ht hW => ⟨⟨(), _, rfl, trivial, congrArg adK e3⟩, hS.F ht⟩) hS.2.2 d_Model_kinds_363
  replace hm := if_f c_6 hm
  rcases Classical.em (v0 = 6) with c_7 | c_7
  · replace hm := if_t c_7 hm
    refine lv_tableIn (x := v0) (tgt := 360) hx hb d_Model_kinds_1 (by rw [c_7]; decide) (by rw [c_7]; decide) (by rw [c_7]; rfl) (by decide) ?_
    refine tw_ldcwS hx hb hown (show vk_R "TurtleWorldModel" 704 _ (adK 33) s from hE.ref 33 (by decide)) d_Model_kinds_360 ?_
    have e3 := re1 hm
    exact W.aret hx hb hr (Or.inl ⟨_, rfl⟩) (Or.inr ⟨_, rfl⟩) (fun t9 ht hW => ⟨⟨(), _, rfl, trivial, congrArg adK e3⟩, hS.F ht⟩) hS.2.2 d_Model_kinds_363
  replace hm := if_f c_7 hm
  rcases Classical.em (v0 = 7) with c_8 | c_8
  · replace hm := if_t c_8 hm
    refine lv_tableIn (x := v0) (tgt := 296) hx hb d_Model_kinds_1 (by rw [c_8]; decide) (by rw [c_8]; decide) (by rw [c_8]; rfl) (by decide) ?_
    refine tw_ldcwS hx hb hown (show vk_R "TurtleWorldModel" 672 _ (adK 17) s from hE.ref 17 (by decide)) d_Model_kinds_296 ?_
    have e3 := re1 hm
    exact W.aret hx hb hr (Or.inl ⟨_, rfl⟩) (Or.inr ⟨_, rfl⟩) (fun t9 ht hW => ⟨⟨(), _, rfl, trivial, congrArg adK e3⟩, hS.F ht⟩) hS.2.2 d_Model_kinds_299
  replace hm := if_f c_8 hm
  rcases Classical.em (v0 = 8) with c_9 | c_9
  · replace hm := if_t c_9 hm
    refine lv_tableIn (x := v0) (tgt := 360) hx hb d_Model_kinds_1 (by rw [c_9]; decide) (by rw [c_9]; decide) (by rw [c_9]; rfl) (by decide) ?_
    refine tw_ldcwS hx hb hown (show vk_R "TurtleWorldModel" 704 _ (adK 33) s from hE.ref 33 (by decide)) d_Model_kinds_360 ?_
    have e3 := re1 hm
    exact W.aret hx hb hr (Or.inl ⟨_, rfl⟩) (Or.inr ⟨_, rfl⟩) (fun t9 ht hW => ⟨⟨(), _, rfl, trivial, congrArg adK e3⟩, hS.F ht⟩) hS.2.2 d_Model_kinds_363
  replace hm := if_f c_9 hm
  rcases Classical.em (v0 = 9) with c_10 | c_10
  · replace hm := if_t c_10 hm
    refine lv_tableIn (x := v0) (tgt := 300) hx hb d_Model_kinds_1 (by rw [c_10]; decide) (by rw [c_10]; decide) (by rw [c_10]; rfl) (by decide) ?_
    refine tw_ldcwS hx hb hown (show vk_R "TurtleWorldModel" 674 _ (adK 18) s from hE.ref 18 (by decide)) d_Model_kinds_300 ?_
    have e3 := re1 hm
    exact W.aret hx hb hr (Or.inl ⟨_, rfl⟩) (Or.inr ⟨_, rfl⟩) (fun t9 ht hW => ⟨⟨(), _, rfl, trivial, congrArg adK e3⟩, hS.F ht⟩) hS.2.2 d_Model_kinds_303
  replace hm := if_f c_10 hm
  rcases Classical.em (v0 = 10) with c_11 | c_11
  · replace hm := if_t c_11 hm
    refine lv_tableIn (x := v0) (tgt := 360) hx hb d_Model_kinds_1 (by rw [c_11]; decide) (by rw [c_11]; decide) (by rw [c_11]; rfl) (by decide) ?_
    refine tw_ldcwS hx hb hown (show vk_R "TurtleWorldModel" 704 _ (adK 33) s from hE.ref 33 (by decide)) d_Model_kinds_360 ?_
    have e3 := re1 hm
    exact W.aret hx hb hr (Or.inl ⟨_, rfl⟩) (Or.inr ⟨_, rfl⟩) (fun t9 ht hW => ⟨⟨(), _, rfl, trivial, congrArg adK e3⟩, hS.F ht⟩) hS.2.2 d_Model_kinds_363
  replace hm := if_f c_11 hm
  rcases Classical.em (v0 = 11) with c_12 | c_12
  · replace hm := if_t c_12 hm
    refine lv_tableIn (x := v0) (tgt := 304) hx hb d_Model_kinds_1 (by rw [c_12]; decide) (by rw [c_12]; decide) (by rw [c_12]; rfl) (by decide) ?_
    refine tw_ldcwS hx hb hown (show vk_R "TurtleWorldModel" 676 _ (adK 19) s from hE.ref 19 (by decide)) d_Model_kinds_304 ?_
    have e3 := re1 hm
    exact W.aret hx hb hr (Or.inl ⟨_, rfl⟩) (Or.inr ⟨_, rfl⟩) (fun t9 ht hW => ⟨⟨(), _, rfl, trivial, congrArg adK e3⟩, hS.F ht⟩) hS.2.2 d_Model_kinds_307
  replace hm := if_f c_12 hm
  rcases Classical.em (v0 = 12) with c_13 | c_13
  · replace hm := if_t c_13 hm
    refine lv_tableIn (x := v0) (tgt := 360) hx hb d_Model_kinds_1 (by rw [c_13]; decide) (by rw [c_13]; decide) (by rw [c_13]; rfl) (by decide) ?_
    refine tw_ldcwS hx hb hown (show vk_R "TurtleWorldModel" 704 _ (adK 33) s from hE.ref 33 (by decide)) d_Model_kinds_360 ?_
    have e3 := re1 hm
    exact W.aret hx hb hr (Or.inl ⟨_, rfl⟩) (Or.inr ⟨_, rfl⟩) (fun t9 ht hW => ⟨⟨(), _, rfl, trivial, congrArg adK e3⟩, hS.F ht⟩) hS.2.2 d_Model_kinds_363
  replace hm := if_f c_13 hm
  rcases Classical.em (v0 = 13) with c_14 | c_14
  · replace hm := if_t c_14 hm
    refine lv_tableIn (x := v0) (tgt := 360) hx hb d_Model_kinds_1 (by rw [c_14]; decide) (by rw [c_14]; decide) (by rw [c_14]; rfl) (by decide) ?_
    refine tw_ldcwS hx hb hown (show vk_R "TurtleWorldModel" 704 _ (adK 33) s from hE.ref 33 (by decide)) d_Model_kinds_360 ?_
    have e3 := re1 hm
    exact W.aret hx hb hr (Or.inl ⟨_, rfl⟩) (Or.inr ⟨_, rfl⟩) (fun t9 ht hW => ⟨⟨(), _, rfl, trivial, congrArg adK e3⟩, hS.F ht⟩) hS.2.2 d_Model_kinds_363
  replace hm := if_f c_14 hm
  rcases Classical.em (v0 = 14) with c_15 | c_15
  · replace hm := if_t c_15 hm
    refine lv_tableIn (x := v0) (tgt := 360) hx hb d_Model_kinds_1 (by rw [c_15]; decide) (by rw [c_15]; decide) (by rw [c_15]; rfl) (by decide) ?_
    refine tw_ldcwS hx hb hown (show vk_R "TurtleWorldModel" 704 _ (adK 33) s from hE.ref 33 (by decide)) d_Model_kinds_360 ?_
    have e3 := re1 hm
    exact W.aret hx hb hr (Or.inl ⟨_, rfl⟩) (Or.inr ⟨_, rfl⟩) (fun t9 ht hW => ⟨⟨(), _, rfl, trivial, congrArg adK e3⟩, hS.F ht⟩) hS.2.2 d_Model_kinds_363
  replace hm := if_f c_15 hm
  rcases Classical.em (v0 = 15) with c_16 | c_16
  · replace hm := if_t c_16 hm
    refine lv_tableIn (x := v0) (tgt := 360) hx hb d_Model_kinds_1 (by rw [c_16]; decide) (by rw [c_16]; decide) (by rw [c_16]; rfl) (by decide) ?_
    refine tw_ldcwS hx hb hown (show vk_R "TurtleWorldModel" 704 _ (adK 33) s from hE.ref 33 (by decide)) d_Model_kinds_360 ?_
    have e3 := re1 hm
    exact W.aret hx hb hr (Or.inl ⟨_, rfl⟩) (Or.inr ⟨_, rfl⟩) (fun t9 ht hW => ⟨⟨(), _, rfl, trivial, congrArg adK e3⟩, hS.F ht⟩) hS.2.2 d_Model_kinds_363
  replace hm := if_f c_16 hm
  rcases Classical.em (v0 = 16) with c_17 | c_17
  · replace hm := if_t c_17 hm
    refine lv_tableIn (x := v0) (tgt := 360) hx hb d_Model_kinds_1 (by rw [c_17]; decide) (by rw [c_17]; decide) (by rw [c_17]; rfl) (by decide) ?_
    refine tw_ldcwS hx hb hown (show vk_R "TurtleWorldModel" 704 _ (adK 33) s from hE.ref 33 (by decide)) d_Model_kinds_360 ?_
    have e3 := re1 hm
    exact W.aret hx hb hr (Or.inl ⟨_, rfl⟩) (Or.inr ⟨_, rfl⟩) (fun t9 ht hW => ⟨⟨(), _, rfl, trivial, congrArg adK e3⟩, hS.F ht⟩) hS.2.2 d_Model_kinds_363
  replace hm := if_f c_17 hm
  rcases Classical.em (v0 = 17) with c_18 | c_18
  · replace hm := if_t c_18 hm
    refine lv_tableIn (x := v0) (tgt := 360) hx hb d_Model_kinds_1 (by rw [c_18]; decide) (by rw [c_18]; decide) (by rw [c_18]; rfl) (by decide) ?_
    refine tw_ldcwS hx hb hown (show vk_R "TurtleWorldModel" 704 _ (adK 33) s from hE.ref 33 (by decide)) d_Model_kinds_360 ?_
    have e3 := re1 hm
    exact W.aret hx hb hr (Or.inl ⟨_, rfl⟩) (Or.inr ⟨_, rfl⟩) (fun t9 ht hW => ⟨⟨(), _, rfl, trivial, congrArg adK e3⟩, hS.F ht⟩) hS.2.2 d_Model_kinds_363
  replace hm := if_f c_18 hm
  rcases Classical.em (v0 = 18) with c_19 | c_19
  · replace hm := if_t c_19 hm
    refine lv_tableIn (x := v0) (tgt := 308) hx hb d_Model_kinds_1 (by rw [c_19]; decide) (by rw [c_19]; decide) (by rw [c_19]; rfl) (by decide) ?_
    refine tw_ldcwS hx hb hown (show vk_R "TurtleWorldModel" 678 _ (adK 20) s from hE.ref 20 (by decide)) d_Model_kinds_308 ?_
    have e3 := re1 hm
    exact W.aret hx hb hr (Or.inl ⟨_, rfl⟩) (Or.inr ⟨_, rfl⟩) (fun t9 ht hW => ⟨⟨(), _, rfl, trivial, congrArg adK e3⟩, hS.F ht⟩) hS.2.2 d_Model_kinds_311
  replace hm := if_f c_19 hm
  rcases Classical.em (v0 = 19) with c_20 | c_20
  · replace hm := if_t c_20 hm
    refine lv_tableIn (x := v0) (tgt := 300) hx hb d_Model_kinds_1 (by rw [c_20]; decide) (by rw [c_20]; decide) (by rw [c_20]; rfl) (by decide) ?_
    refine tw_ldcwS hx hb hown (show vk_R "TurtleWorldModel" 674 _ (adK 18) s from hE.ref 18 (by decide)) d_Model_kinds_300 ?_
    have e3 := re1 hm
    exact W.aret hx hb hr (Or.inl ⟨_, rfl⟩) (Or.inr ⟨_, rfl⟩) (fun t9 ht hW => ⟨⟨(), _, rfl, trivial, congrArg adK e3⟩, hS.F ht⟩) hS.2.2 d_Model_kinds_303
  replace hm := if_f c_20 hm
  rcases Classical.em (v0 = 20) with c_21 | c_21
  · replace hm := if_t c_21 hm
    refine lv_tableIn (x := v0) (tgt := 300) hx hb d_Model_kinds_1 (by rw [c_21]; decide) (by rw [c_21]; decide) (by rw [c_21]; rfl) (by decide) ?_
    refine tw_ldcwS hx hb hown (show vk_R "TurtleWorldModel" 674 _ (adK 18) s from hE.ref 18 (by decide)) d_Model_kinds_300 ?_
    have e3 := re1 hm
    exact W.aret hx hb hr (Or.inl ⟨_, rfl⟩) (Or.inr ⟨_, rfl⟩) (fun t9 ht hW => ⟨⟨(), _, rfl, trivial, congrArg adK e3⟩, hS.F ht⟩) hS.2.2 d_Model_kinds_303
  replace hm := if_f c_21 hm
  rcases Classical.em (v0 = 21) with c_22 | c_22
  · replace hm := if_t c_22 hm
    refine lv_tableIn (x := v0) (tgt := 300) hx hb d_Model_kinds_1 (by rw [c_22]; decide) (by rw [c_22]; decide) (by rw [c_22]; rfl) (by decide) ?_
    refine tw_ldcwS hx hb hown (show vk_R "TurtleWorldModel" 674 _ (adK 18) s from hE.ref 18 (by decide)) d_Model_kinds_300 ?_
    have e3 := re1 hm
    exact W.aret hx hb hr (Or.inl ⟨_, rfl⟩) (Or.inr ⟨_, rfl⟩) (fun t9 ht hW => ⟨⟨(), _, rfl, trivial, congrArg adK e3⟩, hS.F ht⟩) hS.2.2 d_Model_kinds_303
  replace hm := if_f c_22 hm
  rcases Classical.em (v0 = 22) with c_23 | c_23
  · replace hm := if_t c_23 hm
    refine lv_tableIn (x := v0) (tgt := 300) hx hb d_Model_kinds_1 (by rw [c_23]; decide) (by rw [c_23]; decide) (by rw [c_23]; rfl) (by decide) ?_
    refine tw_ldcwS hx hb hown (show vk_R "TurtleWorldModel" 674 _ (adK 18) s from hE.ref 18 (by decide)) d_Model_kinds_300 ?_
    have e3 := re1 hm
    exact W.aret hx hb hr (Or.inl ⟨_, rfl⟩) (Or.inr ⟨_, rfl⟩) (fun t9 ht hW => ⟨⟨(), _, rfl, trivial, congrArg adK e3⟩, hS.F ht⟩) hS.2.2 d_Model_kinds_303
  replace hm := if_f c_23 hm
  rcases Classical.em (v0 = 23) with c_24 | c_24
  · replace hm := if_t c_24 hm
    refine lv_tableIn (x := v0) (tgt := 300) hx hb d_Model_kinds_1 (by rw [c_24]; decide) (by rw [c_24]; decide) (by rw [c_24]; rfl) (by decide) ?_
    refine tw_ldcwS hx hb hown (show vk_R "TurtleWorldModel" 674 _ (adK 18) s from hE.ref 18 (by decide)) d_Model_kinds_300 ?_
    have e3 := re1 hm
    exact W.aret hx hb hr (Or.inl ⟨_, rfl⟩) (Or.inr ⟨_, rfl⟩) (fun t9 ht hW => ⟨⟨(), _, rfl, trivial, congrArg adK e3⟩, hS.F ht⟩) hS.2.2 d_Model_kinds_303
  replace hm := if_f c_24 hm
  rcases Classical.em (v0 = 24) with c_25 | c_25
  · replace hm := if_t c_25 hm
    refine lv_tableIn (x := v0) (tgt := 296) hx hb d_Model_kinds_1 (by rw [c_25]; decide) (by rw [c_25]; decide) (by rw [c_25]; rfl) (by decide) ?_
    refine tw_ldcwS hx hb hown (show vk_R "TurtleWorldModel" 672 _ (adK 17) s from hE.ref 17 (by decide)) d_Model_kinds_296 ?_
    have e3 := re1 hm
    exact W.aret hx hb hr (Or.inl ⟨_, rfl⟩) (Or.inr ⟨_, rfl⟩) (fun t9 ht hW => ⟨⟨(), _, rfl, trivial, congrArg adK e3⟩, hS.F ht⟩) hS.2.2 d_Model_kinds_299
  replace hm := if_f c_25 hm
  rcases Classical.em (v0 = 25) with c_26 | c_26
  · replace hm := if_t c_26 hm
    refine lv_tableIn (x := v0) (tgt := 300) hx hb d_Model_kinds_1 (by rw [c_26]; decide) (by rw [c_26]; decide) (by rw [c_26]; rfl) (by decide) ?_
    refine tw_ldcwS hx hb hown (show vk_R "TurtleWorldModel" 674 _ (adK 18) s from hE.ref 18 (by decide)) d_Model_kinds_300 ?_
    have e3 := re1 hm
    exact W.aret hx hb hr (Or.inl ⟨_, rfl⟩) (Or.inr ⟨_, rfl⟩) (fun t9 ht hW => ⟨⟨(), _, rfl, trivial, congrArg adK e3⟩, hS.F ht⟩) hS.2.2 d_Model_kinds_303
  replace hm := if_f c_26 hm
  rcases Classical.em (v0 = 26) with c_27 | c_27
  · replace hm := if_t c_27 hm
    refine lv_tableIn (x := v0) (tgt := 300) hx hb d_Model_kinds_1 (by rw [c_27]; decide) (by rw [c_27]; decide) (by rw [c_27]; rfl) (by decide) ?_
    refine tw_ldcwS hx hb hown (show vk_R "TurtleWorldModel" 674 _ (adK 18) s from hE.ref 18 (by decide)) d_Model_kinds_300 ?_
    have e3 := re1 hm
    exact W.aret hx hb hr (Or.inl ⟨_, rfl⟩) (Or.inr ⟨_, rfl⟩) (fun t9 ht hW => ⟨⟨(), _, rfl, trivial, congrArg adK e3⟩, hS.F ht⟩) hS.2.2 d_Model_kinds_303
  replace hm := if_f c_27 hm
  rcases Classical.em (v0 = 27) with c_28 | c_28
  · replace hm := if_t c_28 hm
    refine lv_tableIn (x := v0) (tgt := 296) hx hb d_Model_kinds_1 (by rw [c_28]; decide) (by rw [c_28]; decide) (by rw [c_28]; rfl) (by decide) ?_
    refine tw_ldcwS hx hb hown (show vk_R "TurtleWorldModel" 672 _ (adK 17) s from hE.ref 17 (by decide)) d_Model_kinds_296 ?_
    have e3 := re1 hm
    exact W.aret hx hb hr (Or.inl ⟨_, rfl⟩) (Or.inr ⟨_, rfl⟩) (fun t9 ht hW => ⟨⟨(), _, rfl, trivial, congrArg adK e3⟩, hS.F ht⟩) hS.2.2 d_Model_kinds_299
  replace hm := if_f c_28 hm
  rcases Classical.em (v0 = 28) with c_29 | c_29
  · replace hm := if_t c_29 hm
    refine lv_tableIn (x := v0) (tgt := 312) hx hb d_Model_kinds_1 (by rw [c_29]; decide) (by rw [c_29]; decide) (by rw [c_29]; rfl) (by decide) ?_
    refine tw_ldcwS hx hb hown (show vk_R "TurtleWorldModel" 680 _ (adK 21) s from hE.ref 21 (by decide)) d_Model_kinds_312 ?_
    have e3 := re1 hm
    exact W.aret hx hb hr (Or.inl ⟨_, rfl⟩) (Or.inr ⟨_, rfl⟩) (fun t9 ht hW => ⟨⟨(), _, rfl, trivial, congrArg adK e3⟩, hS.F ht⟩) hS.2.2 d_Model_kinds_315
  replace hm := if_f c_29 hm
  rcases Classical.em (v0 = 29) with c_30 | c_30
  · replace hm := if_t c_30 hm
    refine lv_tableIn (x := v0) (tgt := 312) hx hb d_Model_kinds_1 (by rw [c_30]; decide) (by rw [c_30]; decide) (by rw [c_30]; rfl) (by decide) ?_
    refine tw_ldcwS hx hb hown (show vk_R "TurtleWorldModel" 680 _ (adK 21) s from hE.ref 21 (by decide)) d_Model_kinds_312 ?_
    have e3 := re1 hm
    exact W.aret hx hb hr (Or.inl ⟨_, rfl⟩) (Or.inr ⟨_, rfl⟩) (fun t9 ht hW => ⟨⟨(), _, rfl, trivial, congrArg adK e3⟩, hS.F ht⟩) hS.2.2 d_Model_kinds_315
  replace hm := if_f c_30 hm
  rcases Classical.em (v0 = 30) with c_31 | c_31
  · replace hm := if_t c_31 hm
    refine lv_tableIn (x := v0) (tgt := 316) hx hb d_Model_kinds_1 (by rw [c_31]; decide) (by rw [c_31]; decide) (by rw [c_31]; rfl) (by decide) ?_
    refine tw_ldcwS hx hb hown (show vk_R "TurtleWorldModel" 682 _ (adK 22) s from hE.ref 22 (by decide)) d_Model_kinds_316 ?_
    have e3 := re1 hm
    exact W.aret hx hb hr (Or.inl ⟨_, rfl⟩) (Or.inr ⟨_, rfl⟩) (fun t9 ht hW => ⟨⟨(), _, rfl, trivial, congrArg adK e3⟩, hS.F ht⟩) hS.2.2 d_Model_kinds_319
  replace hm := if_f c_31 hm
  rcases Classical.em (v0 = 31) with c_32 | c_32
  · replace hm := if_t c_32 hm
    refine lv_tableIn (x := v0) (tgt := 360) hx hb d_Model_kinds_1 (by rw [c_32]; decide) (by rw [c_32]; decide) (by rw [c_32]; rfl) (by decide) ?_
    refine tw_ldcwS hx hb hown (show vk_R "TurtleWorldModel" 704 _ (adK 33) s from hE.ref 33 (by decide)) d_Model_kinds_360 ?_
    have e3 := re1 hm
    exact W.aret hx hb hr (Or.inl ⟨_, rfl⟩) (Or.inr ⟨_, rfl⟩) (fun t9 ht hW => ⟨⟨(), _, rfl, trivial, congrArg adK e3⟩, hS.F ht⟩) hS.2.2 d_Model_kinds_363
  replace hm := if_f c_32 hm
  rcases Classical.em (v0 = 32) with c_33 | c_33
  · replace hm := if_t c_33 hm
    refine lv_tableIn (x := v0) (tgt := 360) hx hb d_Model_kinds_1 (by rw [c_33]; decide) (by rw [c_33]; decide) (by rw [c_33]; rfl) (by decide) ?_
    refine tw_ldcwS hx hb hown (show vk_R "TurtleWorldModel" 704 _ (adK 33) s from hE.ref 33 (by decide)) d_Model_kinds_360 ?_
    have e3 := re1 hm
    exact W.aret hx hb hr (Or.inl ⟨_, rfl⟩) (Or.inr ⟨_, rfl⟩) (fun t9 ht hW => ⟨⟨(), _, rfl, trivial, congrArg adK e3⟩, hS.F ht⟩) hS.2.2 d_Model_kinds_363
  replace hm := if_f c_33 hm
  rcases Classical.em (v0 = 33) with c_34 | c_34
  · replace hm := if_t c_34 hm
    refine lv_tableIn (x := v0) (tgt := 360) hx hb d_Model_kinds_1 (by rw [c_34]; decide) (by rw [c_34]; decide) (by rw [c_34]; rfl) (by decide) ?_
    refine tw_ldcwS hx hb hown (show vk_R "TurtleWorldModel" 704 _ (adK 33) s from hE.ref 33 (by decide)) d_Model_kinds_360 ?_
    have e3 := re1 hm
    exact W.aret hx hb hr (Or.inl ⟨_, rfl⟩) (Or.inr ⟨_, rfl⟩) (fun t9 ht hW => ⟨⟨(), _, rfl, trivial, congrArg adK e3⟩, hS.F ht⟩) hS.2.2 d_Model_kinds_363
  replace hm := if_f c_34 hm
  rcases Classical.em (v0 = 34) with c_35 | c_35
  · replace hm := if_t c_35 hm
    refine lv_tableIn (x := v0) (tgt := 360) hx hb d_Model_kinds_1 (by rw [c_35]; decide) (by rw [c_35]; decide) (by rw [c_35]; rfl) (by decide) ?_
    refine tw_ldcwS hx hb hown (show vk_R "TurtleWorldModel" 704 _ (adK 33) s from hE.ref 33 (by decide)) d_Model_kinds_360 ?_
    have e3 := re1 hm
    exact W.aret hx hb hr (Or.inl ⟨_, rfl⟩) (Or.inr ⟨_, rfl⟩) (fun t9 ht hW => ⟨⟨(), _, rfl, trivial, congrArg adK e3⟩, hS.F ht⟩) hS.2.2 d_Model_kinds_363
  replace hm := if_f c_35 hm
  rcases Classical.em (v0 = 35) with c_36 | c_36
  · replace hm := if_t c_36 hm
    refine lv_tableIn (x := v0) (tgt := 360) hx hb d_Model_kinds_1 (by rw [c_36]; decide) (by rw [c_36]; decide) (by rw [c_36]; rfl) (by decide) ?_
    refine tw_ldcwS hx hb hown (show vk_R "TurtleWorldModel" 704 _ (adK 33) s from hE.ref 33 (by decide)) d_Model_kinds_360 ?_
    have e3 := re1 hm
    exact W.aret hx hb hr (Or.inl ⟨_, rfl⟩) (Or.inr ⟨_, rfl⟩) (fun t9 ht hW => ⟨⟨(), _, rfl, trivial, congrArg adK e3⟩, hS.F ht⟩) hS.2.2 d_Model_kinds_363
  replace hm := if_f c_36 hm
  rcases Classical.em (v0 = 36) with c_37 | c_37
  · replace hm := if_t c_37 hm
    refine lv_tableIn (x := v0) (tgt := 320) hx hb d_Model_kinds_1 (by rw [c_37]; decide) (by rw [c_37]; decide) (by rw [c_37]; rfl) (by decide) ?_
    refine tw_ldcwS hx hb hown (show vk_R "TurtleWorldModel" 684 _ (adK 23) s from hE.ref 23 (by decide)) d_Model_kinds_320 ?_
    have e3 := re1 hm
    exact W.aret hx hb hr (Or.inl ⟨_, rfl⟩) (Or.inr ⟨_, rfl⟩) (fun t9 ht hW => ⟨⟨(), _, rfl, trivial, congrArg adK e3⟩, hS.F ht⟩) hS.2.2 d_Model_kinds_323
  replace hm := if_f c_37 hm
  rcases Classical.em (v0 = 37) with c_38 | c_38
  · replace hm := if_t c_38 hm
    refine lv_tableIn (x := v0) (tgt := 320) hx hb d_Model_kinds_1 (by rw [c_38]; decide) (by rw [c_38]; decide) (by rw [c_38]; rfl) (by decide) ?_
    refine tw_ldcwS hx hb hown (show vk_R "TurtleWorldModel" 684 _ (adK 23) s from hE.ref 23 (by decide)) d_Model_kinds_320 ?_
    have e3 := re1 hm
    exact W.aret hx hb hr (Or.inl ⟨_, rfl⟩) (Or.inr ⟨_, rfl⟩) (fun t9 ht hW => ⟨⟨(), _, rfl, trivial, congrArg adK e3⟩, hS.F ht⟩) hS.2.2 d_Model_kinds_323
  replace hm := if_f c_38 hm
  rcases Classical.em (v0 = 38) with c_39 | c_39
  · replace hm := if_t c_39 hm
    refine lv_tableIn (x := v0) (tgt := 320) hx hb d_Model_kinds_1 (by rw [c_39]; decide) (by rw [c_39]; decide) (by rw [c_39]; rfl) (by decide) ?_
    refine tw_ldcwS hx hb hown (show vk_R "TurtleWorldModel" 684 _ (adK 23) s from hE.ref 23 (by decide)) d_Model_kinds_320 ?_
    have e3 := re1 hm
    exact W.aret hx hb hr (Or.inl ⟨_, rfl⟩) (Or.inr ⟨_, rfl⟩) (fun t9 ht hW => ⟨⟨(), _, rfl, trivial, congrArg adK e3⟩, hS.F ht⟩) hS.2.2 d_Model_kinds_323
  replace hm := if_f c_39 hm
  rcases Classical.em (v0 = 39) with c_40 | c_40
  · replace hm := if_t c_40 hm
    refine lv_tableIn (x := v0) (tgt := 320) hx hb d_Model_kinds_1 (by rw [c_40]; decide) (by rw [c_40]; decide) (by rw [c_40]; rfl) (by decide) ?_
    refine tw_ldcwS hx hb hown (show vk_R "TurtleWorldModel" 684 _ (adK 23) s from hE.ref 23 (by decide)) d_Model_kinds_320 ?_
    have e3 := re1 hm
    exact W.aret hx hb hr (Or.inl ⟨_, rfl⟩) (Or.inr ⟨_, rfl⟩) (fun t9 ht hW => ⟨⟨(), _, rfl, trivial, congrArg adK e3⟩, hS.F ht⟩) hS.2.2 d_Model_kinds_323
  replace hm := if_f c_40 hm
  rcases Classical.em (v0 = 40) with c_41 | c_41
  · replace hm := if_t c_41 hm
    refine lv_tableIn (x := v0) (tgt := 320) hx hb d_Model_kinds_1 (by rw [c_41]; decide) (by rw [c_41]; decide) (by rw [c_41]; rfl) (by decide) ?_
    refine tw_ldcwS hx hb hown (show vk_R "TurtleWorldModel" 684 _ (adK 23) s from hE.ref 23 (by decide)) d_Model_kinds_320 ?_
    have e3 := re1 hm
    exact W.aret hx hb hr (Or.inl ⟨_, rfl⟩) (Or.inr ⟨_, rfl⟩) (fun t9 ht hW => ⟨⟨(), _, rfl, trivial, congrArg adK e3⟩, hS.F ht⟩) hS.2.2 d_Model_kinds_323
  replace hm := if_f c_41 hm
  rcases Classical.em (v0 = 41) with c_42 | c_42
  · replace hm := if_t c_42 hm
    refine lv_tableIn (x := v0) (tgt := 324) hx hb d_Model_kinds_1 (by rw [c_42]; decide) (by rw [c_42]; decide) (by rw [c_42]; rfl) (by decide) ?_
    refine tw_ldcwS hx hb hown (show vk_R "TurtleWorldModel" 686 _ (adK 24) s from hE.ref 24 (by decide)) d_Model_kinds_324 ?_
    have e3 := re1 hm
    exact W.aret hx hb hr (Or.inl ⟨_, rfl⟩) (Or.inr ⟨_, rfl⟩) (fun t9 ht hW => ⟨⟨(), _, rfl, trivial, congrArg adK e3⟩, hS.F ht⟩) hS.2.2 d_Model_kinds_327
  replace hm := if_f c_42 hm
  rcases Classical.em (v0 = 42) with c_43 | c_43
  · replace hm := if_t c_43 hm
    refine lv_tableIn (x := v0) (tgt := 328) hx hb d_Model_kinds_1 (by rw [c_43]; decide) (by rw [c_43]; decide) (by rw [c_43]; rfl) (by decide) ?_
    refine tw_ldcwS hx hb hown (show vk_R "TurtleWorldModel" 688 _ (adK 25) s from hE.ref 25 (by decide)) d_Model_kinds_328 ?_
    have e3 := re1 hm
    exact W.aret hx hb hr (Or.inl ⟨_, rfl⟩) (Or.inr ⟨_, rfl⟩) (fun t9 ht hW => ⟨⟨(), _, rfl, trivial, congrArg adK e3⟩, hS.F ht⟩) hS.2.2 d_Model_kinds_331
  replace hm := if_f c_43 hm
  rcases Classical.em (v0 = 43) with c_44 | c_44
  · replace hm := if_t c_44 hm
    refine lv_tableIn (x := v0) (tgt := 328) hx hb d_Model_kinds_1 (by rw [c_44]; decide) (by rw [c_44]; decide) (by rw [c_44]; rfl) (by decide) ?_
    refine tw_ldcwS hx hb hown (show vk_R "TurtleWorldModel" 688 _ (adK 25) s from hE.ref 25 (by decide)) d_Model_kinds_328 ?_
    have e3 := re1 hm
    exact W.aret hx hb hr (Or.inl ⟨_, rfl⟩) (Or.inr ⟨_, rfl⟩) (fun t9 ht hW => ⟨⟨(), _, rfl, trivial, congrArg adK e3⟩, hS.F ht⟩) hS.2.2 d_Model_kinds_331
  replace hm := if_f c_44 hm
  rcases Classical.em (v0 = 44) with c_45 | c_45
  · replace hm := if_t c_45 hm
    refine lv_tableIn (x := v0) (tgt := 360) hx hb d_Model_kinds_1 (by rw [c_45]; decide) (by rw [c_45]; decide) (by rw [c_45]; rfl) (by decide) ?_
    refine tw_ldcwS hx hb hown (show vk_R "TurtleWorldModel" 704 _ (adK 33) s from hE.ref 33 (by decide)) d_Model_kinds_360 ?_
    have e3 := re1 hm
    exact W.aret hx hb hr (Or.inl ⟨_, rfl⟩) (Or.inr ⟨_, rfl⟩) (fun t9 ht hW => ⟨⟨(), _, rfl, trivial, congrArg adK e3⟩, hS.F ht⟩) hS.2.2 d_Model_kinds_363
  replace hm := if_f c_45 hm
  rcases Classical.em (v0 = 45) with c_46 | c_46
  · replace hm := if_t c_46 hm
    refine lv_tableIn (x := v0) (tgt := 360) hx hb d_Model_kinds_1 (by rw [c_46]; decide) (by rw [c_46]; decide) (by rw [c_46]; rfl) (by decide) ?_
    refine tw_ldcwS hx hb hown (show vk_R "TurtleWorldModel" 704 _ (adK 33) s from hE.ref 33 (by decide)) d_Model_kinds_360 ?_
    have e3 := re1 hm
    exact W.aret hx hb hr (Or.inl ⟨_, rfl⟩) (Or.inr ⟨_, rfl⟩) (fun t9 ht hW => ⟨⟨(), _, rfl, trivial, congrArg adK e3⟩, hS.F ht⟩) hS.2.2 d_Model_kinds_363
  replace hm := if_f c_46 hm
  rcases Classical.em (v0 = 46) with c_47 | c_47
  · replace hm := if_t c_47 hm
    refine lv_tableIn (x := v0) (tgt := 328) hx hb d_Model_kinds_1 (by rw [c_47]; decide) (by rw [c_47]; decide) (by rw [c_47]; rfl) (by decide) ?_
    refine tw_ldcwS hx hb hown (show vk_R "TurtleWorldModel" 688 _ (adK 25) s from hE.ref 25 (by decide)) d_Model_kinds_328 ?_
    have e3 := re1 hm
    exact W.aret hx hb hr (Or.inl ⟨_, rfl⟩) (Or.inr ⟨_, rfl⟩) (fun t9 ht hW => ⟨⟨(), _, rfl, trivial, congrArg adK e3⟩, hS.F ht⟩) hS.2.2 d_Model_kinds_331
  replace hm := if_f c_47 hm
  rcases Classical.em (v0 = 47) with c_48 | c_48
  · replace hm := if_t c_48 hm
    refine lv_tableIn (x := v0) (tgt := 320) hx hb d_Model_kinds_1 (by rw [c_48]; decide) (by rw [c_48]; decide) (by rw [c_48]; rfl) (by decide) ?_
    refine tw_ldcwS hx hb hown (show vk_R "TurtleWorldModel" 684 _ (adK 23) s from hE.ref 23 (by decide)) d_Model_kinds_320 ?_
    have e3 := re1 hm
    exact W.aret hx hb hr (Or.inl ⟨_, rfl⟩) (Or.inr ⟨_, rfl⟩) (fun t9 ht hW => ⟨⟨(), _, rfl, trivial, congrArg adK e3⟩, hS.F ht⟩) hS.2.2 d_Model_kinds_323
  replace hm := if_f c_48 hm
  rcases Classical.em (v0 = 48) with c_49 | c_49
  · replace hm := if_t c_49 hm
    refine lv_tableIn (x := v0) (tgt := 360) hx hb d_Model_kinds_1 (by rw [c_49]; decide) (by rw [c_49]; decide) (by rw [c_49]; rfl) (by decide) ?_
    refine tw_ldcwS hx hb hown (show vk_R "TurtleWorldModel" 704 _ (adK 33) s from hE.ref 33 (by decide)) d_Model_kinds_360 ?_
    have e3 := re1 hm
    exact W.aret hx hb hr (Or.inl ⟨_, rfl⟩) (Or.inr ⟨_, rfl⟩) (fun t9 ht hW => ⟨⟨(), _, rfl, trivial, congrArg adK e3⟩, hS.F ht⟩) hS.2.2 d_Model_kinds_363
  replace hm := if_f c_49 hm
  rcases Classical.em (v0 = 49) with c_50 | c_50
  · replace hm := if_t c_50 hm
    refine lv_tableIn (x := v0) (tgt := 332) hx hb d_Model_kinds_1 (by rw [c_50]; decide) (by rw [c_50]; decide) (by rw [c_50]; rfl) (by decide) ?_
    refine tw_ldcwS hx hb hown (show vk_R "TurtleWorldModel" 690 _ (adK 26) s from hE.ref 26 (by decide)) d_Model_kinds_332 ?_
    have e3 := re1 hm
    exact W.aret hx hb hr (Or.inl ⟨_, rfl⟩) (Or.inr ⟨_, rfl⟩) (fun t9 ht hW => ⟨⟨(), _, rfl, trivial, congrArg adK e3⟩, hS.F ht⟩) hS.2.2 d_Model_kinds_335
  replace hm := if_f c_50 hm
  rcases Classical.em (v0 = 50) with c_51 | c_51
  · replace hm := if_t c_51 hm
    refine lv_tableIn (x := v0) (tgt := 336) hx hb d_Model_kinds_1 (by rw [c_51]; decide) (by rw [c_51]; decide) (by rw [c_51]; rfl) (by decide) ?_
    refine tw_ldcwS hx hb hown (show vk_R "TurtleWorldModel" 692 _ (adK 27) s from hE.ref 27 (by decide)) d_Model_kinds_336 ?_
    have e3 := re1 hm
    exact W.aret hx hb hr (Or.inl ⟨_, rfl⟩) (Or.inr ⟨_, rfl⟩) (fun t9 ht hW => ⟨⟨(), _, rfl, trivial, congrArg adK e3⟩, hS.F ht⟩) hS.2.2 d_Model_kinds_339
  replace hm := if_f c_51 hm
  rcases Classical.em (v0 = 51) with c_52 | c_52
  · replace hm := if_t c_52 hm
    refine lv_tableIn (x := v0) (tgt := 336) hx hb d_Model_kinds_1 (by rw [c_52]; decide) (by rw [c_52]; decide) (by rw [c_52]; rfl) (by decide) ?_
    refine tw_ldcwS hx hb hown (show vk_R "TurtleWorldModel" 692 _ (adK 27) s from hE.ref 27 (by decide)) d_Model_kinds_336 ?_
    have e3 := re1 hm
    exact W.aret hx hb hr (Or.inl ⟨_, rfl⟩) (Or.inr ⟨_, rfl⟩) (fun t9 ht hW => ⟨⟨(), _, rfl, trivial, congrArg adK e3⟩, hS.F ht⟩) hS.2.2 d_Model_kinds_339
  replace hm := if_f c_52 hm
  rcases Classical.em (v0 = 52) with c_53 | c_53
  · replace hm := if_t c_53 hm
    refine lv_tableIn (x := v0) (tgt := 336) hx hb d_Model_kinds_1 (by rw [c_53]; decide) (by rw [c_53]; decide) (by rw [c_53]; rfl) (by decide) ?_
    refine tw_ldcwS hx hb hown (show vk_R "TurtleWorldModel" 692 _ (adK 27) s from hE.ref 27 (by decide)) d_Model_kinds_336 ?_
    have e3 := re1 hm
    exact W.aret hx hb hr (Or.inl ⟨_, rfl⟩) (Or.inr ⟨_, rfl⟩) (fun t9 ht hW => ⟨⟨(), _, rfl, trivial, congrArg adK e3⟩, hS.F ht⟩) hS.2.2 d_Model_kinds_339
  replace hm := if_f c_53 hm
  rcases Classical.em (v0 = 53) with c_54 | c_54
  · replace hm := if_t c_54 hm
    refine lv_tableIn (x := v0) (tgt := 340) hx hb d_Model_kinds_1 (by rw [c_54]; decide) (by rw [c_54]; decide) (by rw [c_54]; rfl) (by decide) ?_
    refine tw_ldcwS hx hb hown (show vk_R "TurtleWorldModel" 694 _ (adK 28) s from hE.ref 28 (by decide)) d_Model_kinds_340 ?_
    have e3 := re1 hm
    exact W.aret hx hb hr (Or.inl ⟨_, rfl⟩) (Or.inr ⟨_, rfl⟩) (fun t9 ht hW => ⟨⟨(), _, rfl, trivial, congrArg adK e3⟩, hS.F ht⟩) hS.2.2 d_Model_kinds_343
  replace hm := if_f c_54 hm
  rcases Classical.em (v0 = 54) with c_55 | c_55
  · replace hm := if_t c_55 hm
    refine lv_tableIn (x := v0) (tgt := 336) hx hb d_Model_kinds_1 (by rw [c_55]; decide) (by rw [c_55]; decide) (by rw [c_55]; rfl) (by decide) ?_
    refine tw_ldcwS hx hb hown (show vk_R "TurtleWorldModel" 692 _ (adK 27) s from hE.ref 27 (by decide)) d_Model_kinds_336 ?_
    have e3 := re1 hm
    exact W.aret hx hb hr (Or.inl ⟨_, rfl⟩) (Or.inr ⟨_, rfl⟩) (fun t9 ht hW => ⟨⟨(), _, rfl, trivial, congrArg adK e3⟩, hS.F ht⟩) hS.2.2 d_Model_kinds_339
  replace hm := if_f c_55 hm
  rcases Classical.em (v0 = 55) with c_56 | c_56
  · replace hm := if_t c_56 hm
    refine lv_tableIn (x := v0) (tgt := 336) hx hb d_Model_kinds_1 (by rw [c_56]; decide) (by rw [c_56]; decide) (by rw [c_56]; rfl) (by decide) ?_
    refine tw_ldcwS hx hb hown (show vk_R "TurtleWorldModel" 692 _ (adK 27) s from hE.ref 27 (by decide)) d_Model_kinds_336 ?_
    have e3 := re1 hm
    exact W.aret hx hb hr (Or.inl ⟨_, rfl⟩) (Or.inr ⟨_, rfl⟩) (fun t9 ht hW => ⟨⟨(), _, rfl, trivial, congrArg adK e3⟩, hS.F ht⟩) hS.2.2 d_Model_kinds_339
  replace hm := if_f c_56 hm
  rcases Classical.em (v0 = 56) with c_57 | c_57
  · replace hm := if_t c_57 hm
    refine lv_tableIn (x := v0) (tgt := 320) hx hb d_Model_kinds_1 (by rw [c_57]; decide) (by rw [c_57]; decide) (by rw [c_57]; rfl) (by decide) ?_
    refine tw_ldcwS hx hb hown (show vk_R "TurtleWorldModel" 684 _ (adK 23) s from hE.ref 23 (by decide)) d_Model_kinds_320 ?_
    have e3 := re1 hm
    exact W.aret hx hb hr (Or.inl ⟨_, rfl⟩) (Or.inr ⟨_, rfl⟩) (fun t9 ht hW => ⟨⟨(), _, rfl, trivial, congrArg adK e3⟩, hS.F ht⟩) hS.2.2 d_Model_kinds_323
  replace hm := if_f c_57 hm
  rcases Classical.em (v0 = 57) with c_58 | c_58
  · replace hm := if_t c_58 hm
    refine lv_tableIn (x := v0) (tgt := 344) hx hb d_Model_kinds_1 (by rw [c_58]; decide) (by rw [c_58]; decide) (by rw [c_58]; rfl) (by decide) ?_
    refine tw_ldcwS hx hb hown (show vk_R "TurtleWorldModel" 696 _ (adK 29) s from hE.ref 29 (by decide)) d_Model_kinds_344 ?_
    have e3 := re1 hm
    exact W.aret hx hb hr (Or.inl ⟨_, rfl⟩) (Or.inr ⟨_, rfl⟩) (fun t9 ht hW => ⟨⟨(), _, rfl, trivial, congrArg adK e3⟩, hS.F ht⟩) hS.2.2 d_Model_kinds_347
  replace hm := if_f c_58 hm
  rcases Classical.em (v0 = 58) with c_59 | c_59
  · replace hm := if_t c_59 hm
    refine lv_tableIn (x := v0) (tgt := 348) hx hb d_Model_kinds_1 (by rw [c_59]; decide) (by rw [c_59]; decide) (by rw [c_59]; rfl) (by decide) ?_
    refine tw_ldcwS hx hb hown (show vk_R "TurtleWorldModel" 698 _ (adK 30) s from hE.ref 30 (by decide)) d_Model_kinds_348 ?_
    have e3 := re1 hm
    exact W.aret hx hb hr (Or.inl ⟨_, rfl⟩) (Or.inr ⟨_, rfl⟩) (fun t9 ht hW => ⟨⟨(), _, rfl, trivial, congrArg adK e3⟩, hS.F ht⟩) hS.2.2 d_Model_kinds_351
  replace hm := if_f c_59 hm
  rcases Classical.em (v0 = 59) with c_60 | c_60
  · replace hm := if_t c_60 hm
    refine lv_tableIn (x := v0) (tgt := 324) hx hb d_Model_kinds_1 (by rw [c_60]; decide) (by rw [c_60]; decide) (by rw [c_60]; rfl) (by decide) ?_
    refine tw_ldcwS hx hb hown (show vk_R "TurtleWorldModel" 686 _ (adK 24) s from hE.ref 24 (by decide)) d_Model_kinds_324 ?_
    have e3 := re1 hm
    exact W.aret hx hb hr (Or.inl ⟨_, rfl⟩) (Or.inr ⟨_, rfl⟩) (fun t9 ht hW => ⟨⟨(), _, rfl, trivial, congrArg adK e3⟩, hS.F ht⟩) hS.2.2 d_Model_kinds_327
  replace hm := if_f c_60 hm
  rcases Classical.em (v0 = 60) with c_61 | c_61
  · replace hm := if_t c_61 hm
    refine lv_tableIn (x := v0) (tgt := 360) hx hb d_Model_kinds_1 (by rw [c_61]; decide) (by rw [c_61]; decide) (by rw [c_61]; rfl) (by decide) ?_
    refine tw_ldcwS hx hb hown (show vk_R "TurtleWorldModel" 704 _ (adK 33) s from hE.ref 33 (by decide)) d_Model_kinds_360 ?_
    have e3 := re1 hm
    exact W.aret hx hb hr (Or.inl ⟨_, rfl⟩) (Or.inr ⟨_, rfl⟩) (fun t9 ht hW => ⟨⟨(), _, rfl, trivial, congrArg adK e3⟩, hS.F ht⟩) hS.2.2 d_Model_kinds_363
  replace hm := if_f c_61 hm
  rcases Classical.em (v0 = 61) with c_62 | c_62
  · replace hm := if_t c_62 hm
    refine lv_tableIn (x := v0) (tgt := 352) hx hb d_Model_kinds_1 (by rw [c_62]; decide) (by rw [c_62]; decide) (by rw [c_62]; rfl) (by decide) ?_
    refine tw_ldcwS hx hb hown (show vk_R "TurtleWorldModel" 700 _ (adK 31) s from hE.ref 31 (by decide)) d_Model_kinds_352 ?_
    have e3 := re1 hm
    exact W.aret hx hb hr (Or.inl ⟨_, rfl⟩) (Or.inr ⟨_, rfl⟩) (fun t9 ht hW => ⟨⟨(), _, rfl, trivial, congrArg adK e3⟩, hS.F ht⟩) hS.2.2 d_Model_kinds_355
  replace hm := if_f c_62 hm
  rcases Classical.em (v0 = 62) with c_63 | c_63
  · replace hm := if_t c_63 hm
    refine lv_tableIn (x := v0) (tgt := 352) hx hb d_Model_kinds_1 (by rw [c_63]; decide) (by rw [c_63]; decide) (by rw [c_63]; rfl) (by decide) ?_
    refine tw_ldcwS hx hb hown (show vk_R "TurtleWorldModel" 700 _ (adK 31) s from hE.ref 31 (by decide)) d_Model_kinds_352 ?_
    have e3 := re1 hm
    exact W.aret hx hb hr (Or.inl ⟨_, rfl⟩) (Or.inr ⟨_, rfl⟩) (fun t9 ht hW => ⟨⟨(), _, rfl, trivial, congrArg adK e3⟩, hS.F ht⟩) hS.2.2 d_Model_kinds_355
  replace hm := if_f c_63 hm
  rcases Classical.em (v0 = 63) with c_64 | c_64
  · replace hm := if_t c_64 hm
    refine lv_tableIn (x := v0) (tgt := 360) hx hb d_Model_kinds_1 (by rw [c_64]; decide) (by rw [c_64]; decide) (by rw [c_64]; rfl) (by decide) ?_
    refine tw_ldcwS hx hb hown (show vk_R "TurtleWorldModel" 704 _ (adK 33) s from hE.ref 33 (by decide)) d_Model_kinds_360 ?_
    have e3 := re1 hm
    exact W.aret hx hb hr (Or.inl ⟨_, rfl⟩) (Or.inr ⟨_, rfl⟩) (fun t9 ht hW => ⟨⟨(), _, rfl, trivial, congrArg adK e3⟩, hS.F ht⟩) hS.2.2 d_Model_kinds_363
  replace hm := if_f c_64 hm
  rcases Classical.em (v0 = 64) with c_65 | c_65
  · replace hm := if_t c_65 hm
    refine lv_tableIn (x := v0) (tgt := 352) hx hb d_Model_kinds_1 (by rw [c_65]; decide) (by rw [c_65]; decide) (by rw [c_65]; rfl) (by decide) ?_
    refine tw_ldcwS hx hb hown (show vk_R "TurtleWorldModel" 700 _ (adK 31) s from hE.ref 31 (by decide)) d_Model_kinds_352 ?_
    have e3 := re1 hm
    exact W.aret hx hb hr (Or.inl ⟨_, rfl⟩) (Or.inr ⟨_, rfl⟩) (fun t9 ht hW => ⟨⟨(), _, rfl, trivial, congrArg adK e3⟩, hS.F ht⟩) hS.2.2 d_Model_kinds_355
  replace hm := if_f c_65 hm
  rcases Classical.em (v0 = 65) with c_66 | c_66
  · replace hm := if_t c_66 hm
    refine lv_tableIn (x := v0) (tgt := 356) hx hb d_Model_kinds_1 (by rw [c_66]; decide) (by rw [c_66]; decide) (by rw [c_66]; rfl) (by decide) ?_
    refine tw_ldcwS hx hb hown (show vk_R "TurtleWorldModel" 702 _ (adK 32) s from hE.ref 32 (by decide)) d_Model_kinds_356 ?_
    have e3 := re1 hm
    exact W.aret hx hb hr (Or.inl ⟨_, rfl⟩) (Or.inr ⟨_, rfl⟩) (fun t9 ht hW => ⟨⟨(), _, rfl, trivial, congrArg adK e3⟩, hS.F ht⟩) hS.2.2 d_Model_kinds_359
  replace hm := if_f c_66 hm
  rcases Classical.em (v0 = 66) with c_67 | c_67
  · replace hm := if_t c_67 hm
    refine lv_tableIn (x := v0) (tgt := 360) hx hb d_Model_kinds_1 (by rw [c_67]; decide) (by rw [c_67]; decide) (by rw [c_67]; rfl) (by decide) ?_
    refine tw_ldcwS hx hb hown (show vk_R "TurtleWorldModel" 704 _ (adK 33) s from hE.ref 33 (by decide)) d_Model_kinds_360 ?_
    have e3 := re1 hm
    exact W.aret hx hb hr (Or.inl ⟨_, rfl⟩) (Or.inr ⟨_, rfl⟩) (fun t9 ht hW => ⟨⟨(), _, rfl, trivial, congrArg adK e3⟩, hS.F ht⟩) hS.2.2 d_Model_kinds_363
  replace hm := if_f c_67 hm
  rcases Classical.em (v0 = 67) with c_68 | c_68
  · replace hm := if_t c_68 hm
    refine lv_tableIn (x := v0) (tgt := 360) hx hb d_Model_kinds_1 (by rw [c_68]; decide) (by rw [c_68]; decide) (by rw [c_68]; rfl) (by decide) ?_
    refine tw_ldcwS hx hb hown (show vk_R "TurtleWorldModel" 704 _ (adK 33) s from hE.ref 33 (by decide)) d_Model_kinds_360 ?_
    have e3 := re1 hm
    exact W.aret hx hb hr (Or.inl ⟨_, rfl⟩) (Or.inr ⟨_, rfl⟩) (fun t9 ht hW => ⟨⟨(), _, rfl, trivial, congrArg adK e3⟩, hS.F ht⟩) hS.2.2 d_Model_kinds_363
  replace hm := if_f c_68 hm
  rcases Classical.em (v0 = 68) with c_69 | c_69
  · replace hm := if_t c_69 hm
    refine lv_tableIn (x := v0) (tgt := 340) hx hb d_Model_kinds_1 (by rw [c_69]; decide) (by rw [c_69]; decide) (by rw [c_69]; rfl) (by decide) ?_
    refine tw_ldcwS hx hb hown (show vk_R "TurtleWorldModel" 694 _ (adK 28) s from hE.ref 28 (by decide)) d_Model_kinds_340 ?_
    have e3 := re1 hm
    exact W.aret hx hb hr (Or.inl ⟨_, rfl⟩) (Or.inr ⟨_, rfl⟩) (fun t9 ht hW => ⟨⟨(), _, rfl, trivial, congrArg adK e3⟩, hS.F ht⟩) hS.2.2 d_Model_kinds_343
  replace hm := if_f c_69 hm
  rcases Classical.em (v0 = 69) with c_70 | c_70
  · replace hm := if_t c_70 hm
    refine lv_tableIn (x := v0) (tgt := 336) hx hb d_Model_kinds_1 (by rw [c_70]; decide) (by rw [c_70]; decide) (by rw [c_70]; rfl) (by decide) ?_
    refine tw_ldcwS hx hb hown (show vk_R "TurtleWorldModel" 692 _ (adK 27) s from hE.ref 27 (by decide)) d_Model_kinds_336 ?_
    have e3 := re1 hm
    exact W.aret hx hb hr (Or.inl ⟨_, rfl⟩) (Or.inr ⟨_, rfl⟩) (fun t9 ht hW => ⟨⟨(), _, rfl, trivial, congrArg adK e3⟩, hS.F ht⟩) hS.2.2 d_Model_kinds_339
  replace hm := if_f c_70 hm
  refine lv_tableOut (x := v0) (tgt := 360) hx hb d_Model_kinds_1 (by have q0 := lv_neT c_1 (show (0 : Int32).toInt = 0 from by decide); have q1 := lv_neT c_2 (show (1 : Int32).toInt = 1 from by decide); have q2 := lv_neT c_3 (show (2 : Int32).toInt = 2 from by decide); have q3 := lv_neT c_4 (show (3 : Int32).toInt = 3 from by decide); have q4 := lv_neT c_5 (show (4 : Int32).toInt = 4 from by decide); have q5 := lv_neT c_6 (show (5 : Int32).toInt = 5 from by decide); have q6 := lv_neT c_7 (show (6 : Int32).toInt = 6 from by decide); have q7 := lv_neT c_8 (show (7 : Int32).toInt = 7 from by decide); have q8 := lv_neT c_9 (show (8 : Int32).toInt = 8 from by decide); have q9 := lv_neT c_10 (show (9 : Int32).toInt = 9 from by decide); have q10 := lv_neT c_11 (show (10 : Int32).toInt = 10 from by decide); have q11 := lv_neT c_12 (show (11 : Int32).toInt = 11 from by decide); have q12 := lv_neT c_13 (show (12 : Int32).toInt = 12 from by decide); have q13 := lv_neT c_14 (show (13 : Int32).toInt = 13 from by decide); have q14 := lv_neT c_15 (show (14 : Int32).toInt = 14 from by decide); have q15 := lv_neT c_16 (show (15 : Int32).toInt = 15 from by decide); have q16 := lv_neT c_17 (show (16 : Int32).toInt = 16 from by decide); have q17 := lv_neT c_18 (show (17 : Int32).toInt = 17 from by decide); have q18 := lv_neT c_19 (show (18 : Int32).toInt = 18 from by decide); have q19 := lv_neT c_20 (show (19 : Int32).toInt = 19 from by decide); have q20 := lv_neT c_21 (show (20 : Int32).toInt = 20 from by decide); have q21 := lv_neT c_22 (show (21 : Int32).toInt = 21 from by decide); have q22 := lv_neT c_23 (show (22 : Int32).toInt = 22 from by decide); have q23 := lv_neT c_24 (show (23 : Int32).toInt = 23 from by decide); have q24 := lv_neT c_25 (show (24 : Int32).toInt = 24 from by decide); have q25 := lv_neT c_26 (show (25 : Int32).toInt = 25 from by decide); have q26 := lv_neT c_27 (show (26 : Int32).toInt = 26 from by decide); have q27 := lv_neT c_28 (show (27 : Int32).toInt = 27 from by decide); have q28 := lv_neT c_29 (show (28 : Int32).toInt = 28 from by decide); have q29 := lv_neT c_30 (show (29 : Int32).toInt = 29 from by decide); have q30 := lv_neT c_31 (show (30 : Int32).toInt = 30 from by decide); have q31 := lv_neT c_32 (show (31 : Int32).toInt = 31 from by decide); have q32 := lv_neT c_33 (show (32 : Int32).toInt = 32 from by decide); have q33 := lv_neT c_34 (show (33 : Int32).toInt = 33 from by decide); have q34 := lv_neT c_35 (show (34 : Int32).toInt = 34 from by decide); have q35 := lv_neT c_36 (show (35 : Int32).toInt = 35 from by decide); have q36 := lv_neT c_37 (show (36 : Int32).toInt = 36 from by decide); have q37 := lv_neT c_38 (show (37 : Int32).toInt = 37 from by decide); have q38 := lv_neT c_39 (show (38 : Int32).toInt = 38 from by decide); have q39 := lv_neT c_40 (show (39 : Int32).toInt = 39 from by decide); have q40 := lv_neT c_41 (show (40 : Int32).toInt = 40 from by decide); have q41 := lv_neT c_42 (show (41 : Int32).toInt = 41 from by decide); have q42 := lv_neT c_43 (show (42 : Int32).toInt = 42 from by decide); have q43 := lv_neT c_44 (show (43 : Int32).toInt = 43 from by decide); have q44 := lv_neT c_45 (show (44 : Int32).toInt = 44 from by decide); have q45 := lv_neT c_46 (show (45 : Int32).toInt = 45 from by decide); have q46 := lv_neT c_47 (show (46 : Int32).toInt = 46 from by decide); have q47 := lv_neT c_48 (show (47 : Int32).toInt = 47 from by decide); have q48 := lv_neT c_49 (show (48 : Int32).toInt = 48 from by decide); have q49 := lv_neT c_50 (show (49 : Int32).toInt = 49 from by decide); have q50 := lv_neT c_51 (show (50 : Int32).toInt = 50 from by decide); have q51 := lv_neT c_52 (show (51 : Int32).toInt = 51 from by decide); have q52 := lv_neT c_53 (show (52 : Int32).toInt = 52 from by decide); have q53 := lv_neT c_54 (show (53 : Int32).toInt = 53 from by decide); have q54 := lv_neT c_55 (show (54 : Int32).toInt = 54 from by decide); have q55 := lv_neT c_56 (show (55 : Int32).toInt = 55 from by decide); have q56 := lv_neT c_57 (show (56 : Int32).toInt = 56 from by decide); have q57 := lv_neT c_58 (show (57 : Int32).toInt = 57 from by decide); have q58 := lv_neT c_59 (show (58 : Int32).toInt = 58 from by decide); have q59 := lv_neT c_60 (show (59 : Int32).toInt = 59 from by decide); have q60 := lv_neT c_61 (show (60 : Int32).toInt = 60 from by decide); have q61 := lv_neT c_62 (show (61 : Int32).toInt = 61 from by decide); have q62 := lv_neT c_63 (show (62 : Int32).toInt = 62 from by decide); have q63 := lv_neT c_64 (show (63 : Int32).toInt = 63 from by decide); have q64 := lv_neT c_65 (show (64 : Int32).toInt = 64 from by decide); have q65 := lv_neT c_66 (show (65 : Int32).toInt = 65 from by decide); have q66 := lv_neT c_67 (show (66 : Int32).toInt = 66 from by decide); have q67 := lv_neT c_68 (show (67 : Int32).toInt = 67 from by decide); have q68 := lv_neT c_69 (show (68 : Int32).toInt = 68 from by decide); have q69 := lv_neT c_70 (show (69 : Int32).toInt = 69 from by decide); omega) (by decide) ?_
  refine tw_ldcwS hx hb hown (show vk_R "TurtleWorldModel" 704 _ (adK 33) s from hE.ref 33 (by decide)) d_Model_kinds_360 ?_
  have e3 := re1 hm
  exact W.aret hx hb hr (Or.inl ⟨_, rfl⟩) (Or.inr ⟨_, rfl⟩) (fun t9 ht hW => ⟨⟨(), _, rfl, trivial, congrArg adK e3⟩, hS.F ht⟩) hS.2.2 d_Model_kinds_363
