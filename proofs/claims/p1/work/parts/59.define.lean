theorem d_Reader_begin_0 : decode b_Reader_begin 0 = .ok (.aload_n 0, 1) := by decide +kernel
theorem d_Reader_begin_1 : decode b_Reader_begin 1 = .ok (.iload_n 1, 1) := by decide +kernel
theorem d_Reader_begin_2 : decode b_Reader_begin 2 = .ok (.putfield 68, 3) := by decide +kernel
theorem d_Reader_begin_5 : decode b_Reader_begin 5 = .ok (.aload_n 0, 1) := by decide +kernel
theorem d_Reader_begin_6 : decode b_Reader_begin 6 = .ok (.aload_n 0, 1) := by decide +kernel
theorem d_Reader_begin_7 : decode b_Reader_begin 7 = .ok (.getfield 68, 3) := by decide +kernel
theorem d_Reader_begin_10 : decode b_Reader_begin 10 = .ok (.ifCond .eq 7, 3) := by decide +kernel
theorem d_Reader_begin_13 : decode b_Reader_begin 13 = .ok (.iconst 0, 1) := by decide +kernel
theorem d_Reader_begin_14 : decode b_Reader_begin 14 = .ok (.goto 4, 3) := by decide +kernel
theorem d_Reader_begin_17 : decode b_Reader_begin 17 = .ok (.iconst 3, 1) := by decide +kernel
theorem d_Reader_begin_18 : decode b_Reader_begin 18 = .ok (.putfield 72, 3) := by decide +kernel
theorem d_Reader_begin_21 : decode b_Reader_begin 21 = .ok (.aload_n 0, 1) := by decide +kernel
theorem d_Reader_begin_22 : decode b_Reader_begin 22 = .ok (.iconst 0, 1) := by decide +kernel
theorem d_Reader_begin_23 : decode b_Reader_begin 23 = .ok (.putfield 51, 3) := by decide +kernel
theorem d_Reader_begin_26 : decode b_Reader_begin 26 = .ok (.aload_n 0, 1) := by decide +kernel
theorem d_Reader_begin_27 : decode b_Reader_begin 27 = .ok (.iconst 0, 1) := by decide +kernel
theorem d_Reader_begin_28 : decode b_Reader_begin 28 = .ok (.putfield 75, 3) := by decide +kernel
theorem d_Reader_begin_31 : decode b_Reader_begin 31 = .ok (.aload_n 0, 1) := by decide +kernel
theorem d_Reader_begin_32 : decode b_Reader_begin 32 = .ok (.iconst 0, 1) := by decide +kernel
theorem d_Reader_begin_33 : decode b_Reader_begin 33 = .ok (.putfield 78, 3) := by decide +kernel
theorem d_Reader_begin_36 : decode b_Reader_begin 36 = .ok (.aload_n 0, 1) := by decide +kernel
theorem d_Reader_begin_37 : decode b_Reader_begin 37 = .ok (.iconst 0, 1) := by decide +kernel
theorem d_Reader_begin_38 : decode b_Reader_begin 38 = .ok (.putfield 81, 3) := by decide +kernel
theorem d_Reader_begin_41 : decode b_Reader_begin 41 = .ok (.aload_n 0, 1) := by decide +kernel
theorem d_Reader_begin_42 : decode b_Reader_begin 42 = .ok (.iconst 0, 1) := by decide +kernel
theorem d_Reader_begin_43 : decode b_Reader_begin 43 = .ok (.putfield 84, 3) := by decide +kernel
theorem d_Reader_begin_46 : decode b_Reader_begin 46 = .ok (.aload_n 0, 1) := by decide +kernel
theorem d_Reader_begin_47 : decode b_Reader_begin 47 = .ok (.iconst 0, 1) := by decide +kernel
theorem d_Reader_begin_48 : decode b_Reader_begin 48 = .ok (.putfield 87, 3) := by decide +kernel
theorem d_Reader_begin_51 : decode b_Reader_begin 51 = .ok (.return_, 1) := by decide +kernel
theorem lk_Reader_68 : Cond.fieldLink "TurtleWorld$Reader" 68 "TurtleWorld$Reader" "defining" "Z" ∈ tw_T := tw_i2 179 (by decide +kernel) (by decide +kernel)
theorem lk_Reader_72 : Cond.fieldLink "TurtleWorld$Reader" 72 "TurtleWorld$Reader" "stage" "I" ∈ tw_T := tw_i2 180 (by decide +kernel) (by decide +kernel)
theorem lk_Reader_51 : Cond.fieldLink "TurtleWorld$Reader" 51 "TurtleWorld$Reader" "faultKind" "I" ∈ tw_T := tw_i2 171 (by decide +kernel) (by decide +kernel)
theorem lk_Reader_75 : Cond.fieldLink "TurtleWorld$Reader" 75 "TurtleWorld$Reader" "height" "I" ∈ tw_T := tw_i2 175 (by decide +kernel) (by decide +kernel)
theorem lk_Reader_78 : Cond.fieldLink "TurtleWorld$Reader" 78 "TurtleWorld$Reader" "depth" "I" ∈ tw_T := tw_i2 177 (by decide +kernel) (by decide +kernel)
theorem lk_Reader_81 : Cond.fieldLink "TurtleWorld$Reader" 81 "TurtleWorld$Reader" "tokens" "I" ∈ tw_T := tw_i2 178 (by decide +kernel) (by decide +kernel)
theorem lk_Reader_84 : Cond.fieldLink "TurtleWorld$Reader" 84 "TurtleWorld$Reader" "told" "I" ∈ tw_T := tw_i2 184 (by decide +kernel) (by decide +kernel)
theorem lk_Reader_87 : Cond.fieldLink "TurtleWorld$Reader" 87 "TurtleWorld$Reader" "fresh" "I" ∈ tw_T := tw_i2 185 (by decide +kernel) (by decide +kernel)
theorem d_Reader_readEnd_0 : decode b_Reader_readEnd 0 = .ok (.aload_n 0, 1) := by decide +kernel
theorem d_Reader_readEnd_1 : decode b_Reader_readEnd 1 = .ok (.getfield 78, 3) := by decide +kernel
theorem d_Reader_readEnd_4 : decode b_Reader_readEnd 4 = .ok (.ifCond .le 15, 3) := by decide +kernel
theorem d_Reader_readEnd_7 : decode b_Reader_readEnd 7 = .ok (.aload_n 0, 1) := by decide +kernel
theorem d_Reader_readEnd_8 : decode b_Reader_readEnd 8 = .ok (.iconst 4, 1) := by decide +kernel
theorem d_Reader_readEnd_9 : decode b_Reader_readEnd 9 = .ok (.aload_n 0, 1) := by decide +kernel
theorem d_Reader_readEnd_10 : decode b_Reader_readEnd 10 = .ok (.getfield 38, 3) := by decide +kernel
theorem d_Reader_readEnd_13 : decode b_Reader_readEnd 13 = .ok (.invokevirtual 54, 3) := by decide +kernel
theorem d_Reader_readEnd_16 : decode b_Reader_readEnd 16 = .ok (.goto 82, 3) := by decide +kernel
theorem d_Reader_readEnd_19 : decode b_Reader_readEnd 19 = .ok (.aload_n 0, 1) := by decide +kernel
theorem d_Reader_readEnd_20 : decode b_Reader_readEnd 20 = .ok (.getfield 68, 3) := by decide +kernel
theorem d_Reader_readEnd_23 : decode b_Reader_readEnd 23 = .ok (.ifCond .ne 45, 3) := by decide +kernel
theorem d_Reader_readEnd_26 : decode b_Reader_readEnd 26 = .ok (.aload_n 0, 1) := by decide +kernel
theorem d_Reader_readEnd_27 : decode b_Reader_readEnd 27 = .ok (.aload_n 0, 1) := by decide +kernel
theorem d_Reader_readEnd_28 : decode b_Reader_readEnd 28 = .ok (.getfield 30, 3) := by decide +kernel
theorem d_Reader_readEnd_31 : decode b_Reader_readEnd 31 = .ok (.aload_n 0, 1) := by decide +kernel
theorem d_Reader_readEnd_32 : decode b_Reader_readEnd 32 = .ok (.getfield 15, 3) := by decide +kernel
theorem d_Reader_readEnd_35 : decode b_Reader_readEnd 35 = .ok (.iconst 0, 1) := by decide +kernel
theorem d_Reader_readEnd_36 : decode b_Reader_readEnd 36 = .ok (.aload_n 0, 1) := by decide +kernel
theorem d_Reader_readEnd_37 : decode b_Reader_readEnd 37 = .ok (.getfield 75, 3) := by decide +kernel
theorem d_Reader_readEnd_40 : decode b_Reader_readEnd 40 = .ok (.invokevirtual 123, 3) := by decide +kernel
theorem d_Reader_readEnd_43 : decode b_Reader_readEnd 43 = .ok (.putfield 174, 3) := by decide +kernel
theorem d_Reader_readEnd_46 : decode b_Reader_readEnd 46 = .ok (.aload_n 0, 1) := by decide +kernel
theorem d_Reader_readEnd_47 : decode b_Reader_readEnd 47 = .ok (.getfield 174, 3) := by decide +kernel
theorem d_Reader_readEnd_50 : decode b_Reader_readEnd 50 = .ok (.ldc 127, 2) := by decide +kernel
theorem d_Reader_readEnd_52 : decode b_Reader_readEnd 52 = .ok (.if_icmp .ne 46, 3) := by decide +kernel
theorem d_Reader_readEnd_55 : decode b_Reader_readEnd 55 = .ok (.aload_n 0, 1) := by decide +kernel
theorem d_Reader_readEnd_56 : decode b_Reader_readEnd 56 = .ok (.bipush 6, 2) := by decide +kernel
theorem d_Reader_readEnd_58 : decode b_Reader_readEnd 58 = .ok (.aload_n 0, 1) := by decide +kernel
theorem d_Reader_readEnd_59 : decode b_Reader_readEnd 59 = .ok (.getfield 38, 3) := by decide +kernel
theorem d_Reader_readEnd_62 : decode b_Reader_readEnd 62 = .ok (.invokevirtual 54, 3) := by decide +kernel
theorem d_Reader_readEnd_65 : decode b_Reader_readEnd 65 = .ok (.goto 33, 3) := by decide +kernel
theorem d_Reader_readEnd_68 : decode b_Reader_readEnd 68 = .ok (.aload_n 0, 1) := by decide +kernel
theorem d_Reader_readEnd_69 : decode b_Reader_readEnd 69 = .ok (.getfield 72, 3) := by decide +kernel
theorem d_Reader_readEnd_72 : decode b_Reader_readEnd 72 = .ok (.ifCond .eq 26, 3) := by decide +kernel
theorem d_Reader_readEnd_75 : decode b_Reader_readEnd 75 = .ok (.aload_n 0, 1) := by decide +kernel
theorem d_Reader_readEnd_76 : decode b_Reader_readEnd 76 = .ok (.aload_n 0, 1) := by decide +kernel
theorem d_Reader_readEnd_77 : decode b_Reader_readEnd 77 = .ok (.getfield 72, 3) := by decide +kernel
theorem d_Reader_readEnd_80 : decode b_Reader_readEnd 80 = .ok (.iconst 1, 1) := by decide +kernel
theorem d_Reader_readEnd_81 : decode b_Reader_readEnd 81 = .ok (.if_icmp .ne 8, 3) := by decide +kernel
theorem d_Reader_readEnd_84 : decode b_Reader_readEnd 84 = .ok (.bipush 8, 2) := by decide +kernel
theorem d_Reader_readEnd_86 : decode b_Reader_readEnd 86 = .ok (.goto 5, 3) := by decide +kernel
theorem d_Reader_readEnd_89 : decode b_Reader_readEnd 89 = .ok (.bipush 10, 2) := by decide +kernel
theorem d_Reader_readEnd_91 : decode b_Reader_readEnd 91 = .ok (.aload_n 0, 1) := by decide +kernel
theorem d_Reader_readEnd_92 : decode b_Reader_readEnd 92 = .ok (.getfield 38, 3) := by decide +kernel
theorem d_Reader_readEnd_95 : decode b_Reader_readEnd 95 = .ok (.invokevirtual 54, 3) := by decide +kernel
theorem d_Reader_readEnd_98 : decode b_Reader_readEnd 98 = .ok (.return_, 1) := by decide +kernel
theorem d_Reader_read_0 : decode b_Reader_read 0 = .ok (.aload_n 0, 1) := by decide +kernel
theorem d_Reader_read_1 : decode b_Reader_read 1 = .ok (.getfield 30, 3) := by decide +kernel
theorem d_Reader_read_4 : decode b_Reader_read 4 = .ok (.getfield 42, 3) := by decide +kernel
theorem d_Reader_read_7 : decode b_Reader_read 7 = .ok (.istore_n 2, 1) := by decide +kernel
theorem d_Reader_read_8 : decode b_Reader_read 8 = .ok (.aload_n 0, 1) := by decide +kernel
theorem d_Reader_read_9 : decode b_Reader_read 9 = .ok (.iload_n 1, 1) := by decide +kernel
theorem d_Reader_read_10 : decode b_Reader_read 10 = .ok (.invokevirtual 47, 3) := by decide +kernel
theorem d_Reader_read_13 : decode b_Reader_read 13 = .ok (.iconst 0, 1) := by decide +kernel
theorem d_Reader_read_14 : decode b_Reader_read 14 = .ok (.istore_n 3, 1) := by decide +kernel
theorem d_Reader_read_15 : decode b_Reader_read 15 = .ok (.iconst 0, 1) := by decide +kernel
theorem d_Reader_read_16 : decode b_Reader_read 16 = .ok (.istore 4, 2) := by decide +kernel
theorem d_Reader_read_18 : decode b_Reader_read 18 = .ok (.iconst 0, 1) := by decide +kernel
theorem d_Reader_read_19 : decode b_Reader_read 19 = .ok (.istore 5, 2) := by decide +kernel
theorem d_Reader_read_21 : decode b_Reader_read 21 = .ok (.iload 5, 2) := by decide +kernel
theorem d_Reader_read_23 : decode b_Reader_read 23 = .ok (.sipush 4000, 3) := by decide +kernel
theorem d_Reader_read_26 : decode b_Reader_read 26 = .ok (.if_icmp .ge 132, 3) := by decide +kernel
theorem d_Reader_read_29 : decode b_Reader_read 29 = .ok (.iload 4, 2) := by decide +kernel
theorem d_Reader_read_31 : decode b_Reader_read 31 = .ok (.aload_n 0, 1) := by decide +kernel
theorem d_Reader_read_32 : decode b_Reader_read 32 = .ok (.getfield 38, 3) := by decide +kernel
theorem d_Reader_read_35 : decode b_Reader_read 35 = .ok (.if_icmp .ge 123, 3) := by decide +kernel
theorem d_Reader_read_38 : decode b_Reader_read 38 = .ok (.aload_n 0, 1) := by decide +kernel
theorem d_Reader_read_39 : decode b_Reader_read 39 = .ok (.getfield 51, 3) := by decide +kernel
theorem d_Reader_read_42 : decode b_Reader_read 42 = .ok (.ifCond .ne 116, 3) := by decide +kernel
theorem d_Reader_read_45 : decode b_Reader_read 45 = .ok (.aload_n 0, 1) := by decide +kernel
theorem d_Reader_read_46 : decode b_Reader_read 46 = .ok (.getfield 11, 3) := by decide +kernel
theorem d_Reader_read_49 : decode b_Reader_read 49 = .ok (.iload 4, 2) := by decide +kernel
theorem d_Reader_read_51 : decode b_Reader_read 51 = .ok (.iaload, 1) := by decide +kernel
theorem d_Reader_read_52 : decode b_Reader_read 52 = .ok (.istore 6, 2) := by decide +kernel
theorem d_Reader_read_54 : decode b_Reader_read 54 = .ok (.iload 4, 2) := by decide +kernel
theorem d_Reader_read_56 : decode b_Reader_read 56 = .ok (.iconst 1, 1) := by decide +kernel
theorem d_Reader_read_57 : decode b_Reader_read 57 = .ok (.iadd, 1) := by decide +kernel
theorem d_Reader_read_58 : decode b_Reader_read 58 = .ok (.istore 7, 2) := by decide +kernel
theorem d_Reader_read_60 : decode b_Reader_read 60 = .ok (.iload 6, 2) := by decide +kernel
theorem d_Reader_read_62 : decode b_Reader_read 62 = .ok (.bipush 10, 2) := by decide +kernel
theorem d_Reader_read_64 : decode b_Reader_read 64 = .ok (.if_icmp .eq 27, 3) := by decide +kernel
theorem d_Reader_read_67 : decode b_Reader_read 67 = .ok (.iload 6, 2) := by decide +kernel
theorem d_Reader_read_69 : decode b_Reader_read 69 = .ok (.bipush 32, 2) := by decide +kernel
theorem d_Reader_read_71 : decode b_Reader_read 71 = .ok (.if_icmp .lt 10, 3) := by decide +kernel
theorem d_Reader_read_74 : decode b_Reader_read 74 = .ok (.iload 6, 2) := by decide +kernel
theorem d_Reader_read_76 : decode b_Reader_read 76 = .ok (.bipush 126, 2) := by decide +kernel
theorem d_Reader_read_78 : decode b_Reader_read 78 = .ok (.if_icmp .le 13, 3) := by decide +kernel
theorem d_Reader_read_81 : decode b_Reader_read 81 = .ok (.aload_n 0, 1) := by decide +kernel
theorem d_Reader_read_82 : decode b_Reader_read 82 = .ok (.iconst 1, 1) := by decide +kernel
theorem d_Reader_read_83 : decode b_Reader_read 83 = .ok (.iload 4, 2) := by decide +kernel
theorem d_Reader_read_85 : decode b_Reader_read 85 = .ok (.invokevirtual 54, 3) := by decide +kernel
theorem d_Reader_read_88 : decode b_Reader_read 88 = .ok (.goto 60, 3) := by decide +kernel
theorem d_Reader_read_91 : decode b_Reader_read 91 = .ok (.iload_n 3, 1) := by decide +kernel
theorem d_Reader_read_92 : decode b_Reader_read 92 = .ok (.ifCond .ne 10, 3) := by decide +kernel
theorem d_Reader_read_95 : decode b_Reader_read 95 = .ok (.iload 6, 2) := by decide +kernel
theorem d_Reader_read_97 : decode b_Reader_read 97 = .ok (.bipush 59, 2) := by decide +kernel
theorem d_Reader_read_99 : decode b_Reader_read 99 = .ok (.if_icmp .ne 19, 3) := by decide +kernel
theorem d_Reader_read_102 : decode b_Reader_read 102 = .ok (.iload 6, 2) := by decide +kernel
theorem d_Reader_read_104 : decode b_Reader_read 104 = .ok (.bipush 10, 2) := by decide +kernel
theorem d_Reader_read_106 : decode b_Reader_read 106 = .ok (.if_icmp .eq 7, 3) := by decide +kernel
theorem d_Reader_read_109 : decode b_Reader_read 109 = .ok (.iconst 1, 1) := by decide +kernel
theorem d_Reader_read_110 : decode b_Reader_read 110 = .ok (.goto 4, 3) := by decide +kernel
theorem d_Reader_read_113 : decode b_Reader_read 113 = .ok (.iconst 0, 1) := by decide +kernel
theorem d_Reader_read_114 : decode b_Reader_read 114 = .ok (.istore_n 3, 1) := by decide +kernel
theorem d_Reader_read_115 : decode b_Reader_read 115 = .ok (.goto 33, 3) := by decide +kernel
theorem d_Reader_read_118 : decode b_Reader_read 118 = .ok (.iload 6, 2) := by decide +kernel
theorem d_Reader_read_120 : decode b_Reader_read 120 = .ok (.bipush 10, 2) := by decide +kernel
theorem d_Reader_read_122 : decode b_Reader_read 122 = .ok (.if_icmp .eq 26, 3) := by decide +kernel
theorem d_Reader_read_125 : decode b_Reader_read 125 = .ok (.iload 6, 2) := by decide +kernel
theorem d_Reader_read_127 : decode b_Reader_read 127 = .ok (.bipush 32, 2) := by decide +kernel
theorem d_Reader_read_129 : decode b_Reader_read 129 = .ok (.if_icmp .eq 19, 3) := by decide +kernel
theorem d_Reader_read_132 : decode b_Reader_read 132 = .ok (.aload_n 0, 1) := by decide +kernel
theorem d_Reader_read_133 : decode b_Reader_read 133 = .ok (.iload 4, 2) := by decide +kernel
theorem d_Reader_read_135 : decode b_Reader_read 135 = .ok (.invokevirtual 58, 3) := by decide +kernel
theorem d_Reader_read_138 : decode b_Reader_read 138 = .ok (.istore 7, 2) := by decide +kernel
theorem d_Reader_read_140 : decode b_Reader_read 140 = .ok (.aload_n 0, 1) := by decide +kernel
theorem d_Reader_read_141 : decode b_Reader_read 141 = .ok (.iload 4, 2) := by decide +kernel
theorem d_Reader_read_143 : decode b_Reader_read 143 = .ok (.iload 7, 2) := by decide +kernel
theorem d_Reader_read_145 : decode b_Reader_read 145 = .ok (.invokevirtual 62, 3) := by decide +kernel
theorem d_Reader_read_148 : decode b_Reader_read 148 = .ok (.iload 7, 2) := by decide +kernel
theorem d_Reader_read_150 : decode b_Reader_read 150 = .ok (.istore 4, 2) := by decide +kernel
theorem d_Reader_read_152 : decode b_Reader_read 152 = .ok (.iinc 5 1, 3) := by decide +kernel
theorem d_Reader_read_155 : decode b_Reader_read 155 = .ok (.goto (-134), 3) := by decide +kernel
theorem d_Reader_read_158 : decode b_Reader_read 158 = .ok (.aload_n 0, 1) := by decide +kernel
theorem d_Reader_read_159 : decode b_Reader_read 159 = .ok (.invokevirtual 65, 3) := by decide +kernel
theorem d_Reader_read_162 : decode b_Reader_read 162 = .ok (.aload_n 0, 1) := by decide +kernel
theorem d_Reader_read_163 : decode b_Reader_read 163 = .ok (.getfield 51, 3) := by decide +kernel
theorem d_Reader_read_166 : decode b_Reader_read 166 = .ok (.ifCond .eq 11, 3) := by decide +kernel
theorem d_Reader_read_169 : decode b_Reader_read 169 = .ok (.aload_n 0, 1) := by decide +kernel
theorem d_Reader_read_170 : decode b_Reader_read 170 = .ok (.getfield 30, 3) := by decide +kernel
theorem d_Reader_read_173 : decode b_Reader_read 173 = .ok (.iload_n 2, 1) := by decide +kernel
theorem d_Reader_read_174 : decode b_Reader_read 174 = .ok (.putfield 42, 3) := by decide +kernel
theorem d_Reader_read_177 : decode b_Reader_read 177 = .ok (.aload_n 0, 1) := by decide +kernel
theorem d_Reader_read_178 : decode b_Reader_read 178 = .ok (.iconst 0, 1) := by decide +kernel
theorem d_Reader_read_179 : decode b_Reader_read 179 = .ok (.putfield 38, 3) := by decide +kernel
theorem d_Reader_read_182 : decode b_Reader_read 182 = .ok (.aload_n 0, 1) := by decide +kernel
theorem d_Reader_read_183 : decode b_Reader_read 183 = .ok (.getfield 51, 3) := by decide +kernel
theorem d_Reader_read_186 : decode b_Reader_read 186 = .ok (.ifCond .ne 7, 3) := by decide +kernel
theorem d_Reader_read_189 : decode b_Reader_read 189 = .ok (.iconst 1, 1) := by decide +kernel
theorem d_Reader_read_190 : decode b_Reader_read 190 = .ok (.goto 4, 3) := by decide +kernel
theorem d_Reader_read_193 : decode b_Reader_read 193 = .ok (.iconst 0, 1) := by decide +kernel
theorem d_Reader_read_194 : decode b_Reader_read 194 = .ok (.ireturn, 1) := by decide +kernel
theorem lk_Reader_42 : Cond.fieldLink "TurtleWorld$Reader" 42 "TurtleWorld$Heap" "top" "I" ∈ tw_T := tw_i1 211 (by decide +kernel) (by decide +kernel)
theorem lk_Reader_47 : Cond.methodLink "TurtleWorld$Reader" 47 ⟨"TurtleWorld$Reader", "begin", "(Z)V"⟩ ∈ tw_T := tw_i4 22 (by decide +kernel) (by decide +kernel)
theorem in_Reader_begin : Cond.instanceMethod ⟨"TurtleWorld$Reader", "begin", "(Z)V"⟩ ∈ tw_T := tw_i4 24 (by decide +kernel) (by decide +kernel)
theorem sel_Reader_begin : Cond.selects "TurtleWorld$Reader" ⟨"TurtleWorld$Reader", "begin", "(Z)V"⟩ ⟨"TurtleWorld$Reader", "begin", "(Z)V"⟩ ∈ tw_T := tw_inS 8 (by decide +kernel) (by decide +kernel)
theorem lk_Reader_65 : Cond.methodLink "TurtleWorld$Reader" 65 ⟨"TurtleWorld$Reader", "readEnd", "()V"⟩ ∈ tw_T := tw_i4 145 (by decide +kernel) (by decide +kernel)
theorem in_Reader_readEnd : Cond.instanceMethod ⟨"TurtleWorld$Reader", "readEnd", "()V"⟩ ∈ tw_T := tw_i4 147 (by decide +kernel) (by decide +kernel)
theorem sel_Reader_readEnd : Cond.selects "TurtleWorld$Reader" ⟨"TurtleWorld$Reader", "readEnd", "()V"⟩ ⟨"TurtleWorld$Reader", "readEnd", "()V"⟩ ∈ tw_T := tw_inS 24 (by decide +kernel) (by decide +kernel)
theorem d_Reader_tellAll_0 : decode b_Reader_tellAll 0 = .ok (.iconst 0, 1) := by decide +kernel
theorem d_Reader_tellAll_1 : decode b_Reader_tellAll 1 = .ok (.istore_n 1, 1) := by decide +kernel
theorem d_Reader_tellAll_2 : decode b_Reader_tellAll 2 = .ok (.iload_n 1, 1) := by decide +kernel
theorem d_Reader_tellAll_3 : decode b_Reader_tellAll 3 = .ok (.aload_n 0, 1) := by decide +kernel
theorem d_Reader_tellAll_4 : decode b_Reader_tellAll 4 = .ok (.getfield 84, 3) := by decide +kernel
theorem d_Reader_tellAll_7 : decode b_Reader_tellAll 7 = .ok (.if_icmp .ge 35, 3) := by decide +kernel
theorem d_Reader_tellAll_10 : decode b_Reader_tellAll 10 = .ok (.aload_n 0, 1) := by decide +kernel
theorem d_Reader_tellAll_11 : decode b_Reader_tellAll 11 = .ok (.getfield 34, 3) := by decide +kernel
theorem d_Reader_tellAll_14 : decode b_Reader_tellAll 14 = .ok (.aload_n 0, 1) := by decide +kernel
theorem d_Reader_tellAll_15 : decode b_Reader_tellAll 15 = .ok (.getfield 21, 3) := by decide +kernel
theorem d_Reader_tellAll_18 : decode b_Reader_tellAll 18 = .ok (.iload_n 1, 1) := by decide +kernel
theorem d_Reader_tellAll_19 : decode b_Reader_tellAll 19 = .ok (.iaload, 1) := by decide +kernel
theorem d_Reader_tellAll_20 : decode b_Reader_tellAll 20 = .ok (.aload_n 0, 1) := by decide +kernel
theorem d_Reader_tellAll_21 : decode b_Reader_tellAll 21 = .ok (.getfield 24, 3) := by decide +kernel
theorem d_Reader_tellAll_24 : decode b_Reader_tellAll 24 = .ok (.iload_n 1, 1) := by decide +kernel
theorem d_Reader_tellAll_25 : decode b_Reader_tellAll 25 = .ok (.iaload, 1) := by decide +kernel
theorem d_Reader_tellAll_26 : decode b_Reader_tellAll 26 = .ok (.aload_n 0, 1) := by decide +kernel
theorem d_Reader_tellAll_27 : decode b_Reader_tellAll 27 = .ok (.getfield 27, 3) := by decide +kernel
theorem d_Reader_tellAll_30 : decode b_Reader_tellAll 30 = .ok (.iload_n 1, 1) := by decide +kernel
theorem d_Reader_tellAll_31 : decode b_Reader_tellAll 31 = .ok (.iaload, 1) := by decide +kernel
theorem d_Reader_tellAll_32 : decode b_Reader_tellAll 32 = .ok (.invokevirtual 177, 3) := by decide +kernel
theorem d_Reader_tellAll_35 : decode b_Reader_tellAll 35 = .ok (.pop, 1) := by decide +kernel
theorem d_Reader_tellAll_36 : decode b_Reader_tellAll 36 = .ok (.iinc 1 1, 3) := by decide +kernel
theorem d_Reader_tellAll_39 : decode b_Reader_tellAll 39 = .ok (.goto (-37), 3) := by decide +kernel
theorem d_Reader_tellAll_42 : decode b_Reader_tellAll 42 = .ok (.aload_n 0, 1) := by decide +kernel
theorem d_Reader_tellAll_43 : decode b_Reader_tellAll 43 = .ok (.getfield 84, 3) := by decide +kernel
theorem d_Reader_tellAll_46 : decode b_Reader_tellAll 46 = .ok (.ireturn, 1) := by decide +kernel
theorem d_World_define_0 : decode b_World_define 0 = .ok (.aload_n 0, 1) := by decide +kernel
theorem d_World_define_1 : decode b_World_define 1 = .ok (.getfield 63, 3) := by decide +kernel
theorem d_World_define_4 : decode b_World_define 4 = .ok (.getfield 100, 3) := by decide +kernel
theorem d_World_define_7 : decode b_World_define 7 = .ok (.iconst 1, 1) := by decide +kernel
theorem d_World_define_8 : decode b_World_define 8 = .ok (.if_icmp .ne 6, 3) := by decide +kernel
theorem d_World_define_11 : decode b_World_define 11 = .ok (.bipush (-20), 2) := by decide +kernel
theorem d_World_define_13 : decode b_World_define 13 = .ok (.ireturn, 1) := by decide +kernel
theorem d_World_define_14 : decode b_World_define 14 = .ok (.aload_n 0, 1) := by decide +kernel
theorem d_World_define_15 : decode b_World_define 15 = .ok (.getfield 56, 3) := by decide +kernel
theorem d_World_define_18 : decode b_World_define 18 = .ok (.iconst 1, 1) := by decide +kernel
theorem d_World_define_19 : decode b_World_define 19 = .ok (.invokevirtual 104, 3) := by decide +kernel
theorem d_World_define_22 : decode b_World_define 22 = .ok (.ifCond .ne 12, 3) := by decide +kernel
theorem d_World_define_25 : decode b_World_define 25 = .ok (.aload_n 0, 1) := by decide +kernel
theorem d_World_define_26 : decode b_World_define 26 = .ok (.getfield 56, 3) := by decide +kernel
theorem d_World_define_29 : decode b_World_define 29 = .ok (.getfield 108, 3) := by decide +kernel
theorem d_World_define_32 : decode b_World_define 32 = .ok (.ineg, 1) := by decide +kernel
theorem d_World_define_33 : decode b_World_define 33 = .ok (.ireturn, 1) := by decide +kernel
theorem d_World_define_34 : decode b_World_define 34 = .ok (.aload_n 0, 1) := by decide +kernel
theorem d_World_define_35 : decode b_World_define 35 = .ok (.getfield 56, 3) := by decide +kernel
theorem d_World_define_38 : decode b_World_define 38 = .ok (.invokevirtual 111, 3) := by decide +kernel
theorem d_World_define_41 : decode b_World_define 41 = .ok (.istore_n 1, 1) := by decide +kernel
theorem d_World_define_42 : decode b_World_define 42 = .ok (.iload_n 1, 1) := by decide +kernel
theorem d_World_define_43 : decode b_World_define 43 = .ok (.ifCond .le 8, 3) := by decide +kernel
theorem d_World_define_46 : decode b_World_define 46 = .ok (.aload_n 0, 1) := by decide +kernel
theorem d_World_define_47 : decode b_World_define 47 = .ok (.iconst 0, 1) := by decide +kernel
theorem d_World_define_48 : decode b_World_define 48 = .ok (.putfield 115, 3) := by decide +kernel
theorem d_World_define_51 : decode b_World_define 51 = .ok (.iload_n 1, 1) := by decide +kernel
theorem d_World_define_52 : decode b_World_define 52 = .ok (.ireturn, 1) := by decide +kernel
theorem lk_World_104 : Cond.methodLink "TurtleWorld" 104 ⟨"TurtleWorld$Reader", "read", "(Z)Z"⟩ ∈ tw_T := tw_i4 18 (by decide +kernel) (by decide +kernel)
theorem in_Reader_read : Cond.instanceMethod ⟨"TurtleWorld$Reader", "read", "(Z)Z"⟩ ∈ tw_T := tw_i4 19 (by decide +kernel) (by decide +kernel)
theorem sel_Reader_read : Cond.selects "TurtleWorld$Reader" ⟨"TurtleWorld$Reader", "read", "(Z)Z"⟩ ⟨"TurtleWorld$Reader", "read", "(Z)Z"⟩ ∈ tw_T := tw_i4 20 (by decide +kernel) (by decide +kernel)
theorem lk_World_111 : Cond.methodLink "TurtleWorld" 111 ⟨"TurtleWorld$Reader", "tellAll", "()I"⟩ ∈ tw_T := tw_i4 149 (by decide +kernel) (by decide +kernel)
theorem in_Reader_tellAll : Cond.instanceMethod ⟨"TurtleWorld$Reader", "tellAll", "()I"⟩ ∈ tw_T := tw_i4 150 (by decide +kernel) (by decide +kernel)
theorem sel_Reader_tellAll : Cond.selects "TurtleWorld$Reader" ⟨"TurtleWorld$Reader", "tellAll", "()I"⟩ ⟨"TurtleWorld$Reader", "tellAll", "()I"⟩ ∈ tw_T := tw_i4 151 (by decide +kernel) (by decide +kernel)
set_option maxHeartbeats 4000000 in
set_option maxRecDepth 100000 in
theorem c_Reader_begin_c1 (l : Launch) (dC : Nat → ClassId) (dI : Nat → Nat → Nat) (sz : Nat) (w_reader : Nat) (w_heap : Nat) (w_procedures : Nat) (r_tape : Nat) (r_members : Nat) (r_opened : Nat) (r_newNames : Nat) (r_newInputs : Nat) (r_newBodies : Nat) (cI : ClassId)  : Met l y_Reader_begin w_Reader_begin ({ frames := 0, cells := 0, slots := 0, locals := 0 }) (va_Pc [.ref w_reader, .int 1] (fun U => U.heap.size = sz ∧ va_P (dC, dI) classes [(w_reader, .inr (7, [.ref w_heap, .ref w_procedures, .ref r_tape, .int 0, .int 0, .int 0, .int 0, .ref r_members, .int 0, .ref r_opened, .int 0, .int 0, .int 0, .int 0, .ref r_newNames, .ref r_newInputs, .ref r_newBodies, .int 0, .int 0]))] U.heap ∧ va_K (dC, dI) classes [(cI, .int)] U ∧ va_D (fun _ => True) [(w_reader, .inr (7, [.ref w_heap, .ref w_procedures, .ref r_tape, .int 0, .int 0, .int 0, .int 0, .ref r_members, .int 0, .ref r_opened, .int 0, .int 0, .int 0, .int 0, .ref r_newNames, .ref r_newInputs, .ref r_newBodies, .int 0, .int 0]))])) (va_Qv (fun (_ : Unit) => True) (fun (_ : Unit) t => va_P (dC, dI) classes [(w_reader, .inr (7, [.ref w_heap, .ref w_procedures, .ref r_tape, .int 0, .int 0, .int 0, .int 0, .ref r_members, .int 0, .ref r_opened, .int 0, .int 0, .int 1, .int 0, .ref r_newNames, .ref r_newInputs, .ref r_newBodies, .int 0, .int 0]))] t.heap ∧ va_K (dC, dI) classes [(cI, .int)] t ∧ va_D (va_A [(w_reader, .inr (7, [.ref w_heap, .ref w_procedures, .ref r_tape, .int 0, .int 0, .int 0, .int 0, .ref r_members, .int 0, .ref r_opened, .int 0, .int 0, .int 0, .int 0, .ref r_newNames, .ref r_newInputs, .ref r_newBodies, .int 0, .int 0]))] sz) [(w_reader, .inr (7, [.ref w_heap, .ref w_procedures, .ref r_tape, .int 0, .int 0, .int 0, .int 0, .ref r_members, .int 0, .ref r_opened, .int 0, .int 0, .int 1, .int 0, .ref r_newNames, .ref r_newInputs, .ref r_newBodies, .int 0, .int 0]))]) (va_A [(w_reader, .inr (7, [.ref w_heap, .ref w_procedures, .ref r_tape, .int 0, .int 0, .int 0, .int 0, .ref r_members, .int 0, .ref r_opened, .int 0, .int 0, .int 0, .int 0, .ref r_newNames, .ref r_newInputs, .ref r_newBodies, .int 0, .int 0]))] sz)) 0 0 (va_A [(w_reader, .inr (7, [.ref w_heap, .ref w_procedures, .ref r_tape, .int 0, .int 0, .int 0, .int 0, .ref r_members, .int 0, .ref r_opened, .int 0, .int 0, .int 0, .int 0, .ref r_newNames, .ref r_newInputs, .ref r_newBodies, .int 0, .int 0]))] sz) := by
  refine Met.ofW (cc := b_Reader_begin) (maxL := 2) (ret := none) (by decide) rfl ?_
  intro p e s m args below meth c s₁ B hml hv
  obtain ⟨rfl, hsz, hP, hK, hD0⟩ := hv
  have hx := B.exec
  have hb := B.bytes
  have hr := B.returns
  have hts := atoms_spec (ws := w_Reader_begin) B.pre
  have htt : ∀ w ∈ tw_T, w.before _ s = true := fun w h => hts w (List.mem_cons_of_mem _ h)
  have hown : s.vm.findClass R_Reader = some m.cls := findClass_of_methodNamed B.named
  have hlocks := B.notSynchronized
  subst hsz
  have hD := hD0.self (sz := s.heap.size)
  generalize hAe : va_A [(w_reader, .inr (7, [.ref w_heap, .ref w_procedures, .ref r_tape, .int 0, .int 0, .int 0, .int 0, .ref r_members, .int 0, .ref r_opened, .int 0, .int 0, .int 0, .int 0, .ref r_newNames, .ref r_newInputs, .ref r_newBodies, .int 0, .int 0]))] s.heap.size = A at hD ⊢
  have hA : ∀ q : Nat, s.heap.size ≤ q → A q := fun q h => by rw [← hAe]; exact Or.inr h
  have hS : va_S A s.heap s.heap [] := va_S.rf
  have hP : va_P (dC, dI) classes [(w_reader, .inr (7, [.ref w_heap, .ref w_procedures, .ref r_tape, .int 0, .int 0, .int 0, .int 0, .ref r_members, .int 0, .ref r_opened, .int 0, .int 0, .int 0, .int 0, .ref r_newNames, .ref r_newInputs, .ref r_newBodies, .int 0, .int 0]))] s.heap := hP
  have hl := lv_entry ([.ref w_reader, .int 1]) (n := 2) (Nat.le_of_ble_eq_true rfl)
  rw [lg_entry_eq]
  generalize (lg_sl ([.ref w_reader, .int 1]) ++ List.replicate (2 - (lg_sl ([.ref w_reader, .int 1])).length) Slot.unset).toArray = ls at hl ⊢
  have hl : lv_has ls 2 [(0, .ref w_reader), (1, .int 1)] := hl
  refine lv_aload_n hx hb d_Reader_begin_0 rfl (lv_at hl 0 rfl) ?_
  refine lv_iload_n hx hb d_Reader_begin_1 rfl (lv_at hl 1 rfl) ?_
  refine va_put (D := (dC, dI)) (ci := 7) (v := .int 1) (ty := .boolean) (C := R_Reader) (T := F_Reader) (N := 19) hx hb htt iw_Reader t_Reader t_Reader_ok n_Reader hown hK hP hD hS 0 rfl rfl 12 (by decide) (htt _ lk_Reader_68) (fun _ h9 => h9) rfl (by decide +kernel) rfl rfl (Nat.le_of_ble_eq_true rfl) d_Reader_begin_2 (fun H locs hP hD hS => ?_)
  have hP : va_P (dC, dI) classes [(w_reader, .inr (7, [.ref w_heap, .ref w_procedures, .ref r_tape, .int 0, .int 0, .int 0, .int 0, .ref r_members, .int 0, .ref r_opened, .int 0, .int 0, .int 1, .int 0, .ref r_newNames, .ref r_newInputs, .ref r_newBodies, .int 0, .int 0]))] H := hP
  have hD : va_D A [(w_reader, .inr (7, [.ref w_heap, .ref w_procedures, .ref r_tape, .int 0, .int 0, .int 0, .int 0, .ref r_members, .int 0, .ref r_opened, .int 0, .int 0, .int 1, .int 0, .ref r_newNames, .ref r_newInputs, .ref r_newBodies, .int 0, .int 0]))] := hD
  refine lv_aload_n hx hb d_Reader_begin_5 rfl (lv_at hl 0 rfl) ?_
  refine lv_aload_n hx hb d_Reader_begin_6 rfl (lv_at hl 0 rfl) ?_
  refine va_get (D := (dC, dI)) (ci := 7) (v := .int 1) (C := R_Reader) (T := F_Reader) (N := 19) hx hb htt iw_Reader hown hK hP 0 rfl rfl 12 (by decide) (htt _ lk_Reader_68) (fun _ h9 => h9) rfl d_Reader_begin_7 ?_
  refine lv_if_eq (tgt := 17) hx hb d_Reader_begin_10 (by decide) (fun c_1 => ?_) (fun c_1 => ?_)
  · exact absurd c_1 (by decide)
  · refine lv_iconst (v := 0) hx hb d_Reader_begin_13 (by decide) ?_
    refine lv_goto (tgt := 18) hx hb d_Reader_begin_14 (by decide) ?_
    refine va_put (D := (dC, dI)) (ci := 7) (v := .int 0) (ty := .int) (C := R_Reader) (T := F_Reader) (N := 19) hx hb htt iw_Reader t_Reader t_Reader_ok n_Reader hown hK hP hD hS 0 rfl rfl 13 (by decide) (htt _ lk_Reader_72) (fun _ h9 => h9) rfl (by decide +kernel) rfl rfl (Nat.le_of_ble_eq_true rfl) d_Reader_begin_18 (fun H locs hP hD hS => ?_)
    have hP : va_P (dC, dI) classes [(w_reader, .inr (7, [.ref w_heap, .ref w_procedures, .ref r_tape, .int 0, .int 0, .int 0, .int 0, .ref r_members, .int 0, .ref r_opened, .int 0, .int 0, .int 1, .int 0, .ref r_newNames, .ref r_newInputs, .ref r_newBodies, .int 0, .int 0]))] H := hP
    have hD : va_D A [(w_reader, .inr (7, [.ref w_heap, .ref w_procedures, .ref r_tape, .int 0, .int 0, .int 0, .int 0, .ref r_members, .int 0, .ref r_opened, .int 0, .int 0, .int 1, .int 0, .ref r_newNames, .ref r_newInputs, .ref r_newBodies, .int 0, .int 0]))] := hD
    refine lv_aload_n hx hb d_Reader_begin_21 rfl (lv_at hl 0 rfl) ?_
    refine lv_iconst (v := 0) hx hb d_Reader_begin_22 (by decide) ?_
    refine va_put (D := (dC, dI)) (ci := 7) (v := .int 0) (ty := .int) (C := R_Reader) (T := F_Reader) (N := 19) hx hb htt iw_Reader t_Reader t_Reader_ok n_Reader hown hK hP hD hS 0 rfl rfl 5 (by decide) (htt _ lk_Reader_51) (fun _ h9 => h9) rfl (by decide +kernel) rfl rfl (Nat.le_of_ble_eq_true rfl) d_Reader_begin_23 (fun H locs hP hD hS => ?_)
    have hP : va_P (dC, dI) classes [(w_reader, .inr (7, [.ref w_heap, .ref w_procedures, .ref r_tape, .int 0, .int 0, .int 0, .int 0, .ref r_members, .int 0, .ref r_opened, .int 0, .int 0, .int 1, .int 0, .ref r_newNames, .ref r_newInputs, .ref r_newBodies, .int 0, .int 0]))] H := hP
    have hD : va_D A [(w_reader, .inr (7, [.ref w_heap, .ref w_procedures, .ref r_tape, .int 0, .int 0, .int 0, .int 0, .ref r_members, .int 0, .ref r_opened, .int 0, .int 0, .int 1, .int 0, .ref r_newNames, .ref r_newInputs, .ref r_newBodies, .int 0, .int 0]))] := hD
    refine lv_aload_n hx hb d_Reader_begin_26 rfl (lv_at hl 0 rfl) ?_
    refine lv_iconst (v := 0) hx hb d_Reader_begin_27 (by decide) ?_
    refine va_put (D := (dC, dI)) (ci := 7) (v := .int 0) (ty := .int) (C := R_Reader) (T := F_Reader) (N := 19) hx hb htt iw_Reader t_Reader t_Reader_ok n_Reader hown hK hP hD hS 0 rfl rfl 8 (by decide) (htt _ lk_Reader_75) (fun _ h9 => h9) rfl (by decide +kernel) rfl rfl (Nat.le_of_ble_eq_true rfl) d_Reader_begin_28 (fun H locs hP hD hS => ?_)
    have hP : va_P (dC, dI) classes [(w_reader, .inr (7, [.ref w_heap, .ref w_procedures, .ref r_tape, .int 0, .int 0, .int 0, .int 0, .ref r_members, .int 0, .ref r_opened, .int 0, .int 0, .int 1, .int 0, .ref r_newNames, .ref r_newInputs, .ref r_newBodies, .int 0, .int 0]))] H := hP
    have hD : va_D A [(w_reader, .inr (7, [.ref w_heap, .ref w_procedures, .ref r_tape, .int 0, .int 0, .int 0, .int 0, .ref r_members, .int 0, .ref r_opened, .int 0, .int 0, .int 1, .int 0, .ref r_newNames, .ref r_newInputs, .ref r_newBodies, .int 0, .int 0]))] := hD
    refine lv_aload_n hx hb d_Reader_begin_31 rfl (lv_at hl 0 rfl) ?_
    refine lv_iconst (v := 0) hx hb d_Reader_begin_32 (by decide) ?_
    refine va_put (D := (dC, dI)) (ci := 7) (v := .int 0) (ty := .int) (C := R_Reader) (T := F_Reader) (N := 19) hx hb htt iw_Reader t_Reader t_Reader_ok n_Reader hown hK hP hD hS 0 rfl rfl 10 (by decide) (htt _ lk_Reader_78) (fun _ h9 => h9) rfl (by decide +kernel) rfl rfl (Nat.le_of_ble_eq_true rfl) d_Reader_begin_33 (fun H locs hP hD hS => ?_)
    have hP : va_P (dC, dI) classes [(w_reader, .inr (7, [.ref w_heap, .ref w_procedures, .ref r_tape, .int 0, .int 0, .int 0, .int 0, .ref r_members, .int 0, .ref r_opened, .int 0, .int 0, .int 1, .int 0, .ref r_newNames, .ref r_newInputs, .ref r_newBodies, .int 0, .int 0]))] H := hP
    have hD : va_D A [(w_reader, .inr (7, [.ref w_heap, .ref w_procedures, .ref r_tape, .int 0, .int 0, .int 0, .int 0, .ref r_members, .int 0, .ref r_opened, .int 0, .int 0, .int 1, .int 0, .ref r_newNames, .ref r_newInputs, .ref r_newBodies, .int 0, .int 0]))] := hD
    refine lv_aload_n hx hb d_Reader_begin_36 rfl (lv_at hl 0 rfl) ?_
    refine lv_iconst (v := 0) hx hb d_Reader_begin_37 (by decide) ?_
    refine va_put (D := (dC, dI)) (ci := 7) (v := .int 0) (ty := .int) (C := R_Reader) (T := F_Reader) (N := 19) hx hb htt iw_Reader t_Reader t_Reader_ok n_Reader hown hK hP hD hS 0 rfl rfl 11 (by decide) (htt _ lk_Reader_81) (fun _ h9 => h9) rfl (by decide +kernel) rfl rfl (Nat.le_of_ble_eq_true rfl) d_Reader_begin_38 (fun H locs hP hD hS => ?_)
    have hP : va_P (dC, dI) classes [(w_reader, .inr (7, [.ref w_heap, .ref w_procedures, .ref r_tape, .int 0, .int 0, .int 0, .int 0, .ref r_members, .int 0, .ref r_opened, .int 0, .int 0, .int 1, .int 0, .ref r_newNames, .ref r_newInputs, .ref r_newBodies, .int 0, .int 0]))] H := hP
    have hD : va_D A [(w_reader, .inr (7, [.ref w_heap, .ref w_procedures, .ref r_tape, .int 0, .int 0, .int 0, .int 0, .ref r_members, .int 0, .ref r_opened, .int 0, .int 0, .int 1, .int 0, .ref r_newNames, .ref r_newInputs, .ref r_newBodies, .int 0, .int 0]))] := hD
    refine lv_aload_n hx hb d_Reader_begin_41 rfl (lv_at hl 0 rfl) ?_
    refine lv_iconst (v := 0) hx hb d_Reader_begin_42 (by decide) ?_
    refine va_put (D := (dC, dI)) (ci := 7) (v := .int 0) (ty := .int) (C := R_Reader) (T := F_Reader) (N := 19) hx hb htt iw_Reader t_Reader t_Reader_ok n_Reader hown hK hP hD hS 0 rfl rfl 17 (by decide) (htt _ lk_Reader_84) (fun _ h9 => h9) rfl (by decide +kernel) rfl rfl (Nat.le_of_ble_eq_true rfl) d_Reader_begin_43 (fun H locs hP hD hS => ?_)
    have hP : va_P (dC, dI) classes [(w_reader, .inr (7, [.ref w_heap, .ref w_procedures, .ref r_tape, .int 0, .int 0, .int 0, .int 0, .ref r_members, .int 0, .ref r_opened, .int 0, .int 0, .int 1, .int 0, .ref r_newNames, .ref r_newInputs, .ref r_newBodies, .int 0, .int 0]))] H := hP
    have hD : va_D A [(w_reader, .inr (7, [.ref w_heap, .ref w_procedures, .ref r_tape, .int 0, .int 0, .int 0, .int 0, .ref r_members, .int 0, .ref r_opened, .int 0, .int 0, .int 1, .int 0, .ref r_newNames, .ref r_newInputs, .ref r_newBodies, .int 0, .int 0]))] := hD
    refine lv_aload_n hx hb d_Reader_begin_46 rfl (lv_at hl 0 rfl) ?_
    refine lv_iconst (v := 0) hx hb d_Reader_begin_47 (by decide) ?_
    refine va_put (D := (dC, dI)) (ci := 7) (v := .int 0) (ty := .int) (C := R_Reader) (T := F_Reader) (N := 19) hx hb htt iw_Reader t_Reader t_Reader_ok n_Reader hown hK hP hD hS 0 rfl rfl 18 (by decide) (htt _ lk_Reader_87) (fun _ h9 => h9) rfl (by decide +kernel) rfl rfl (Nat.le_of_ble_eq_true rfl) d_Reader_begin_48 (fun H locs hP hD hS => ?_)
    have hP : va_P (dC, dI) classes [(w_reader, .inr (7, [.ref w_heap, .ref w_procedures, .ref r_tape, .int 0, .int 0, .int 0, .int 0, .ref r_members, .int 0, .ref r_opened, .int 0, .int 0, .int 1, .int 0, .ref r_newNames, .ref r_newInputs, .ref r_newBodies, .int 0, .int 0]))] H := hP
    have hD : va_D A [(w_reader, .inr (7, [.ref w_heap, .ref w_procedures, .ref r_tape, .int 0, .int 0, .int 0, .int 0, .ref r_members, .int 0, .ref r_opened, .int 0, .int 0, .int 1, .int 0, .ref r_newNames, .ref r_newInputs, .ref r_newBodies, .int 0, .int 0]))] := hD
    have hP9 := hP.sub (ws' := [(w_reader, .inr (7, [.ref w_heap, .ref w_procedures, .ref r_tape, .int 0, .int 0, .int 0, .int 0, .ref r_members, .int 0, .ref r_opened, .int 0, .int 0, .int 1, .int 0, .ref r_newNames, .ref r_newInputs, .ref r_newBodies, .int 0, .int 0]))]) [0] rfl
    have hD9 := hD.sub (ws' := [(w_reader, .inr (7, [.ref w_heap, .ref w_procedures, .ref r_tape, .int 0, .int 0, .int 0, .int 0, .ref r_members, .int 0, .ref r_opened, .int 0, .int 0, .int 1, .int 0, .ref r_newNames, .ref r_newInputs, .ref r_newBodies, .int 0, .int 0]))]) [0] (by decide) rfl
    refine W.widen (k := 0) (n := 0) (Nat.le_of_ble_eq_true rfl) (Nat.le_of_ble_eq_true rfl) ?_
    exact W.vret hx hb hr (fun t9 ht hW => ⟨⟨(), rfl, trivial, by rw [ht]; exact hP9, va_K.moved hW.alike hK, hD9⟩, hS.F ht⟩) hS.2.2 d_Reader_begin_51

set_option maxHeartbeats 4000000 in
set_option maxRecDepth 100000 in
theorem c_Reader_readEnd_c1 (l : Launch) (dC : Nat → ClassId) (dI : Nat → Nat → Nat) (sz : Nat) (w_reader : Nat) (w_heap : Nat) (w_procedures : Nat) (r_tape : Nat) (r_members : Nat) (r_opened : Nat) (r_newNames : Nat) (r_newInputs : Nat) (r_newBodies : Nat) (cI : ClassId)  : Met l y_Reader_readEnd w_Reader_readEnd ({ frames := 0, cells := 0, slots := 0, locals := 0 }) (va_Pc [.ref w_reader] (fun U => U.heap.size = sz ∧ va_P (dC, dI) classes [(w_reader, .inr (7, [.ref w_heap, .ref w_procedures, .ref r_tape, .int 0, .int 0, .int 0, .int 0, .ref r_members, .int 0, .ref r_opened, .int 0, .int 0, .int 1, .int 0, .ref r_newNames, .ref r_newInputs, .ref r_newBodies, .int 0, .int 0]))] U.heap ∧ va_K (dC, dI) classes [(cI, .int)] U ∧ va_D (fun _ => True) [(w_reader, .inr (7, [.ref w_heap, .ref w_procedures, .ref r_tape, .int 0, .int 0, .int 0, .int 0, .ref r_members, .int 0, .ref r_opened, .int 0, .int 0, .int 1, .int 0, .ref r_newNames, .ref r_newInputs, .ref r_newBodies, .int 0, .int 0]))])) (va_Qv (fun (_ : Unit) => True) (fun (_ : Unit) t => va_P (dC, dI) classes [(w_reader, .inr (7, [.ref w_heap, .ref w_procedures, .ref r_tape, .int 0, .int 0, .int 0, .int 0, .ref r_members, .int 0, .ref r_opened, .int 0, .int 0, .int 1, .int 0, .ref r_newNames, .ref r_newInputs, .ref r_newBodies, .int 0, .int 0]))] t.heap ∧ va_K (dC, dI) classes [(cI, .int)] t ∧ va_D (va_A [(w_reader, .inr (7, [.ref w_heap, .ref w_procedures, .ref r_tape, .int 0, .int 0, .int 0, .int 0, .ref r_members, .int 0, .ref r_opened, .int 0, .int 0, .int 1, .int 0, .ref r_newNames, .ref r_newInputs, .ref r_newBodies, .int 0, .int 0]))] sz) [(w_reader, .inr (7, [.ref w_heap, .ref w_procedures, .ref r_tape, .int 0, .int 0, .int 0, .int 0, .ref r_members, .int 0, .ref r_opened, .int 0, .int 0, .int 1, .int 0, .ref r_newNames, .ref r_newInputs, .ref r_newBodies, .int 0, .int 0]))]) (va_A [(w_reader, .inr (7, [.ref w_heap, .ref w_procedures, .ref r_tape, .int 0, .int 0, .int 0, .int 0, .ref r_members, .int 0, .ref r_opened, .int 0, .int 0, .int 1, .int 0, .ref r_newNames, .ref r_newInputs, .ref r_newBodies, .int 0, .int 0]))] sz)) 0 0 (va_A [(w_reader, .inr (7, [.ref w_heap, .ref w_procedures, .ref r_tape, .int 0, .int 0, .int 0, .int 0, .ref r_members, .int 0, .ref r_opened, .int 0, .int 0, .int 1, .int 0, .ref r_newNames, .ref r_newInputs, .ref r_newBodies, .int 0, .int 0]))] sz) := by
  refine Met.ofW (cc := b_Reader_readEnd) (maxL := 1) (ret := none) (by decide) rfl ?_
  intro p e s m args below meth c s₁ B hml hv
  obtain ⟨rfl, hsz, hP, hK, hD0⟩ := hv
  have hx := B.exec
  have hb := B.bytes
  have hr := B.returns
  have hts := atoms_spec (ws := w_Reader_readEnd) B.pre
  have htt : ∀ w ∈ tw_T, w.before _ s = true := fun w h => hts w (List.mem_cons_of_mem _ h)
  have hown : s.vm.findClass R_Reader = some m.cls := findClass_of_methodNamed B.named
  have hlocks := B.notSynchronized
  subst hsz
  have hD := hD0.self (sz := s.heap.size)
  generalize hAe : va_A [(w_reader, .inr (7, [.ref w_heap, .ref w_procedures, .ref r_tape, .int 0, .int 0, .int 0, .int 0, .ref r_members, .int 0, .ref r_opened, .int 0, .int 0, .int 1, .int 0, .ref r_newNames, .ref r_newInputs, .ref r_newBodies, .int 0, .int 0]))] s.heap.size = A at hD ⊢
  have hA : ∀ q : Nat, s.heap.size ≤ q → A q := fun q h => by rw [← hAe]; exact Or.inr h
  have hS : va_S A s.heap s.heap [] := va_S.rf
  have hP : va_P (dC, dI) classes [(w_reader, .inr (7, [.ref w_heap, .ref w_procedures, .ref r_tape, .int 0, .int 0, .int 0, .int 0, .ref r_members, .int 0, .ref r_opened, .int 0, .int 0, .int 1, .int 0, .ref r_newNames, .ref r_newInputs, .ref r_newBodies, .int 0, .int 0]))] s.heap := hP
  have hl := lv_entry ([.ref w_reader]) (n := 1) (Nat.le_of_ble_eq_true rfl)
  rw [lg_entry_eq]
  generalize (lg_sl ([.ref w_reader]) ++ List.replicate (1 - (lg_sl ([.ref w_reader])).length) Slot.unset).toArray = ls at hl ⊢
  have hl : lv_has ls 1 [(0, .ref w_reader)] := hl
  refine lv_aload_n hx hb d_Reader_readEnd_0 rfl (lv_at hl 0 rfl) ?_
  refine va_get (D := (dC, dI)) (ci := 7) (v := .int 0) (C := R_Reader) (T := F_Reader) (N := 19) hx hb htt iw_Reader hown hK hP 0 rfl rfl 10 (by decide) (htt _ lk_Reader_78) (fun _ h9 => h9) rfl d_Reader_readEnd_1 ?_
  refine lv_if_le (tgt := 19) hx hb d_Reader_readEnd_4 (by decide) (fun c_1 => ?_) (fun c_1 => ?_)
  · refine lv_aload_n hx hb d_Reader_readEnd_19 rfl (lv_at hl 0 rfl) ?_
    refine va_get (D := (dC, dI)) (ci := 7) (v := .int 1) (C := R_Reader) (T := F_Reader) (N := 19) hx hb htt iw_Reader hown hK hP 0 rfl rfl 12 (by decide) (htt _ lk_Reader_68) (fun _ h9 => h9) rfl d_Reader_readEnd_20 ?_
    refine lv_if_ne (tgt := 68) hx hb d_Reader_readEnd_23 (by decide) (fun c_2 => ?_) (fun c_2 => ?_)
    · refine lv_aload_n hx hb d_Reader_readEnd_68 rfl (lv_at hl 0 rfl) ?_
      refine va_get (D := (dC, dI)) (ci := 7) (v := .int 0) (C := R_Reader) (T := F_Reader) (N := 19) hx hb htt iw_Reader hown hK hP 0 rfl rfl 13 (by decide) (htt _ lk_Reader_72) (fun _ h9 => h9) rfl d_Reader_readEnd_69 ?_
      refine lv_if_eq (tgt := 98) hx hb d_Reader_readEnd_72 (by decide) (fun c_3 => ?_) (fun c_3 => ?_)
      · have hP9 := hP.sub (ws' := [(w_reader, .inr (7, [.ref w_heap, .ref w_procedures, .ref r_tape, .int 0, .int 0, .int 0, .int 0, .ref r_members, .int 0, .ref r_opened, .int 0, .int 0, .int 1, .int 0, .ref r_newNames, .ref r_newInputs, .ref r_newBodies, .int 0, .int 0]))]) [0] rfl
        have hD9 := hD.sub (ws' := [(w_reader, .inr (7, [.ref w_heap, .ref w_procedures, .ref r_tape, .int 0, .int 0, .int 0, .int 0, .ref r_members, .int 0, .ref r_opened, .int 0, .int 0, .int 1, .int 0, .ref r_newNames, .ref r_newInputs, .ref r_newBodies, .int 0, .int 0]))]) [0] (by decide) rfl
        refine W.widen (k := 0) (n := 0) (Nat.le_of_ble_eq_true rfl) (Nat.le_of_ble_eq_true rfl) ?_
        exact W.vret hx hb hr (fun t9 ht hW => ⟨⟨(), rfl, trivial, by rw [ht]; exact hP9, va_K.moved hW.alike hK, hD9⟩, hS.F ht⟩) hS.2.2 d_Reader_readEnd_98
      · exact absurd c_3 (by decide)
    · exact absurd c_2 (by decide)
  · exact absurd c_1 (by decide)

set_option maxHeartbeats 4000000 in
set_option maxRecDepth 100000 in
theorem c_Reader_read_c1 (l : Launch) (dC : Nat → ClassId) (dI : Nat → Nat → Nat) (sz : Nat) (w_reader : Nat) (w_heap : Nat) (w_procedures : Nat) (r_tape : Nat) (r_members : Nat) (r_opened : Nat) (r_newNames : Nat) (r_newInputs : Nat) (r_newBodies : Nat) (e_lexicon : Nat) (e_cells : Nat) (e_spare : Nat) (e_leftLists : Nat) (e_rightLists : Nat) (e_nextMembers : Nat) (cI : ClassId)  : Met l y_Reader_read w_Reader_read ({ frames := 1, cells := 0, slots := 0, locals := 21 }) (va_Pc [.ref w_reader, .int 1] (fun U => U.heap.size = sz ∧ va_P (dC, dI) classes [(w_reader, .inr (7, [.ref w_heap, .ref w_procedures, .ref r_tape, .int 0, .int 0, .int 0, .int 0, .ref r_members, .int 0, .ref r_opened, .int 0, .int 0, .int 0, .int 0, .ref r_newNames, .ref r_newInputs, .ref r_newBodies, .int 0, .int 0])), (w_heap, .inr (1, [.ref e_lexicon, .int ((m_Heap_newWord_r 1)), .int ((m_Heap_newWord_r 7)), .int ((m_Heap_newWord_r 14)), .int 21, .ref e_cells, .ref e_spare, .int 21, .int 0, .ref e_leftLists, .ref e_rightLists, .ref e_nextMembers]))] U.heap ∧ va_K (dC, dI) classes [(cI, .int)] U ∧ va_D (fun _ => True) [(w_reader, .inr (7, [.ref w_heap, .ref w_procedures, .ref r_tape, .int 0, .int 0, .int 0, .int 0, .ref r_members, .int 0, .ref r_opened, .int 0, .int 0, .int 0, .int 0, .ref r_newNames, .ref r_newInputs, .ref r_newBodies, .int 0, .int 0])), (w_heap, .inr (1, [.ref e_lexicon, .int ((m_Heap_newWord_r 1)), .int ((m_Heap_newWord_r 7)), .int ((m_Heap_newWord_r 14)), .int 21, .ref e_cells, .ref e_spare, .int 21, .int 0, .ref e_leftLists, .ref e_rightLists, .ref e_nextMembers]))])) (va_Qi (fun (r : Int32) (_ : Unit) => r = 1) (fun (_ : Unit) t => va_P (dC, dI) classes [(w_reader, .inr (7, [.ref w_heap, .ref w_procedures, .ref r_tape, .int 0, .int 0, .int 0, .int 0, .ref r_members, .int 0, .ref r_opened, .int 0, .int 0, .int 1, .int 0, .ref r_newNames, .ref r_newInputs, .ref r_newBodies, .int 0, .int 0])), (w_heap, .inr (1, [.ref e_lexicon, .int ((m_Heap_newWord_r 1)), .int ((m_Heap_newWord_r 7)), .int ((m_Heap_newWord_r 14)), .int 21, .ref e_cells, .ref e_spare, .int 21, .int 0, .ref e_leftLists, .ref e_rightLists, .ref e_nextMembers]))] t.heap ∧ va_K (dC, dI) classes [(cI, .int)] t ∧ va_D (va_A [(w_reader, .inr (7, [.ref w_heap, .ref w_procedures, .ref r_tape, .int 0, .int 0, .int 0, .int 0, .ref r_members, .int 0, .ref r_opened, .int 0, .int 0, .int 0, .int 0, .ref r_newNames, .ref r_newInputs, .ref r_newBodies, .int 0, .int 0])), (w_heap, .inr (1, [.ref e_lexicon, .int ((m_Heap_newWord_r 1)), .int ((m_Heap_newWord_r 7)), .int ((m_Heap_newWord_r 14)), .int 21, .ref e_cells, .ref e_spare, .int 21, .int 0, .ref e_leftLists, .ref e_rightLists, .ref e_nextMembers]))] sz) [(w_reader, .inr (7, [.ref w_heap, .ref w_procedures, .ref r_tape, .int 0, .int 0, .int 0, .int 0, .ref r_members, .int 0, .ref r_opened, .int 0, .int 0, .int 1, .int 0, .ref r_newNames, .ref r_newInputs, .ref r_newBodies, .int 0, .int 0])), (w_heap, .inr (1, [.ref e_lexicon, .int ((m_Heap_newWord_r 1)), .int ((m_Heap_newWord_r 7)), .int ((m_Heap_newWord_r 14)), .int 21, .ref e_cells, .ref e_spare, .int 21, .int 0, .ref e_leftLists, .ref e_rightLists, .ref e_nextMembers]))]) (va_A [(w_reader, .inr (7, [.ref w_heap, .ref w_procedures, .ref r_tape, .int 0, .int 0, .int 0, .int 0, .ref r_members, .int 0, .ref r_opened, .int 0, .int 0, .int 0, .int 0, .ref r_newNames, .ref r_newInputs, .ref r_newBodies, .int 0, .int 0])), (w_heap, .inr (1, [.ref e_lexicon, .int ((m_Heap_newWord_r 1)), .int ((m_Heap_newWord_r 7)), .int ((m_Heap_newWord_r 14)), .int 21, .ref e_cells, .ref e_spare, .int 21, .int 0, .ref e_leftLists, .ref e_rightLists, .ref e_nextMembers]))] sz)) 0 0 (va_A [(w_reader, .inr (7, [.ref w_heap, .ref w_procedures, .ref r_tape, .int 0, .int 0, .int 0, .int 0, .ref r_members, .int 0, .ref r_opened, .int 0, .int 0, .int 0, .int 0, .ref r_newNames, .ref r_newInputs, .ref r_newBodies, .int 0, .int 0])), (w_heap, .inr (1, [.ref e_lexicon, .int ((m_Heap_newWord_r 1)), .int ((m_Heap_newWord_r 7)), .int ((m_Heap_newWord_r 14)), .int 21, .ref e_cells, .ref e_spare, .int 21, .int 0, .ref e_leftLists, .ref e_rightLists, .ref e_nextMembers]))] sz) := by
  refine Met.ofW (cc := b_Reader_read) (maxL := 8) (ret := (some .boolean)) (by decide) rfl ?_
  intro p e s m args below meth c s₁ B hml hv
  obtain ⟨rfl, hsz, hP, hK, hD0⟩ := hv
  have hx := B.exec
  have hb := B.bytes
  have hr := B.returns
  have hts := atoms_spec (ws := w_Reader_read) B.pre
  have htt : ∀ w ∈ tw_T, w.before _ s = true := fun w h => hts w (List.mem_cons_of_mem _ h)
  have hown : s.vm.findClass R_Reader = some m.cls := findClass_of_methodNamed B.named
  have hlocks := B.notSynchronized
  subst hsz
  have hD := hD0.self (sz := s.heap.size)
  generalize hAe : va_A [(w_reader, .inr (7, [.ref w_heap, .ref w_procedures, .ref r_tape, .int 0, .int 0, .int 0, .int 0, .ref r_members, .int 0, .ref r_opened, .int 0, .int 0, .int 0, .int 0, .ref r_newNames, .ref r_newInputs, .ref r_newBodies, .int 0, .int 0])), (w_heap, .inr (1, [.ref e_lexicon, .int ((m_Heap_newWord_r 1)), .int ((m_Heap_newWord_r 7)), .int ((m_Heap_newWord_r 14)), .int 21, .ref e_cells, .ref e_spare, .int 21, .int 0, .ref e_leftLists, .ref e_rightLists, .ref e_nextMembers]))] s.heap.size = A at hD ⊢
  have hA : ∀ q : Nat, s.heap.size ≤ q → A q := fun q h => by rw [← hAe]; exact Or.inr h
  have hS : va_S A s.heap s.heap [] := va_S.rf
  have hP : va_P (dC, dI) classes [(w_reader, .inr (7, [.ref w_heap, .ref w_procedures, .ref r_tape, .int 0, .int 0, .int 0, .int 0, .ref r_members, .int 0, .ref r_opened, .int 0, .int 0, .int 0, .int 0, .ref r_newNames, .ref r_newInputs, .ref r_newBodies, .int 0, .int 0])), (w_heap, .inr (1, [.ref e_lexicon, .int ((m_Heap_newWord_r 1)), .int ((m_Heap_newWord_r 7)), .int ((m_Heap_newWord_r 14)), .int 21, .ref e_cells, .ref e_spare, .int 21, .int 0, .ref e_leftLists, .ref e_rightLists, .ref e_nextMembers]))] s.heap := hP
  have hl := lv_entry ([.ref w_reader, .int 1]) (n := 8) (Nat.le_of_ble_eq_true rfl)
  rw [lg_entry_eq]
  generalize (lg_sl ([.ref w_reader, .int 1]) ++ List.replicate (8 - (lg_sl ([.ref w_reader, .int 1])).length) Slot.unset).toArray = ls at hl ⊢
  have hl : lv_has ls 8 [(0, .ref w_reader), (1, .int 1)] := hl
  refine lv_aload_n hx hb d_Reader_read_0 rfl (lv_at hl 0 rfl) ?_
  refine va_get (D := (dC, dI)) (ci := 7) (v := .ref w_heap) (C := R_Reader) (T := F_Reader) (N := 19) hx hb htt iw_Reader hown hK hP 0 rfl rfl 0 (by decide) (htt _ lk_Reader_30) (fun _ h9 => h9) rfl d_Reader_read_1 ?_
  refine va_get (D := (dC, dI)) (ci := 1) (v := .int 21) (C := R_Heap) (T := F_Heap) (N := 12) hx hb htt iw_Heap hown hK hP 1 rfl rfl 7 (by decide) (htt _ lk_Reader_42) (fun _ h9 => h9) rfl d_Reader_read_4 ?_
  refine lv_istore_n (lv' := [(2, .int 21), (0, .ref w_reader), (1, .int 1)]) hx hb d_Reader_read_7 rfl hl (by decide) rfl (fun ls hl => ?_)
  refine lv_aload_n hx hb d_Reader_read_8 rfl (lv_at hl 1 rfl) ?_
  refine lv_iload_n hx hb d_Reader_read_9 rfl (lv_at hl 2 rfl) ?_
  have hPc := hP.sub (ws' := [(w_reader, .inr (7, [.ref w_heap, .ref w_procedures, .ref r_tape, .int 0, .int 0, .int 0, .int 0, .ref r_members, .int 0, .ref r_opened, .int 0, .int 0, .int 0, .int 0, .ref r_newNames, .ref r_newInputs, .ref r_newBodies, .int 0, .int 0]))]) [0] rfl
  have hDc := hD.sub (ws' := [(w_reader, .inr (7, [.ref w_heap, .ref w_procedures, .ref r_tape, .int 0, .int 0, .int 0, .int 0, .ref r_members, .int 0, .ref r_opened, .int 0, .int 0, .int 0, .int 0, .ref r_newNames, .ref r_newInputs, .ref r_newBodies, .int 0, .int 0]))]) [0] (by decide) rfl
  have hKc := hK.sub (tys' := [(cI, .int)]) [0] rfl
  have hFc := va_free (wc := [(w_reader, .inr (7, [.ref w_heap, .ref w_procedures, .ref r_tape, .int 0, .int 0, .int 0, .int 0, .ref r_members, .int 0, .ref r_opened, .int 0, .int 0, .int 0, .int 0, .ref r_newNames, .ref r_newInputs, .ref r_newBodies, .int 0, .int 0]))]) hD hS hA [0] rfl
  refine va_callv (va_runV (As := [.int 1]) (rest := []) ⟨hx, hb, hml, hown, hts⟩ (c_Reader_begin_c1 l dC dI s.heap.size w_reader w_heap w_procedures r_tape r_members r_opened r_newNames r_newInputs r_newBodies cI) (cwV 1 hts (tw_GV tw_cons cw_Reader_begin lk_Reader_47 in_Reader_begin sel_Reader_begin ini_Reader) rfl rfl rfl (by decide +kernel) ⟨Nat.le_of_ble_eq_true rfl, Nat.le_of_ble_eq_true rfl⟩) ⟨fun a U g mk q => by obtain ⟨q0, q1, qP, qK, qD⟩ := q; exact ⟨q0, q1, qP, va_K.moved (u := U) (U := U.calling g mk a) (Vm.Alike.refl U.vm) qK, qD⟩, va_recv hKc hPc (ci := 7) (q0 := 0) rfl rfl, fun U hU hW => ⟨rfl, by rw [hU], by rw [hU]; exact hPc, va_K.moved hW.alike hKc, hDc.weaken (fun _ _ _ _ => trivial)⟩⟩ rfl rfl hl.1 rfl (lv_room (Nat.le_of_ble_eq_true rfl)) d_Reader_read_10 ⟨Nat.le_of_ble_eq_true rfl, Nat.le_of_ble_eq_true rfl⟩) hS (fun q _ h => hFc q h) hFc (fun u9 t9 H1 locs ht hvm e9 hB hz1 hk1 hS => ?_)
  obtain ⟨hP1, hK1, hD1⟩ := hB
  rw [ht] at hP1
  obtain ⟨hP, hD⟩ := va_join (wr := [(w_heap, .inr (1, [.ref e_lexicon, .int ((m_Heap_newWord_r 1)), .int ((m_Heap_newWord_r 7)), .int ((m_Heap_newWord_r 14)), .int 21, .ref e_cells, .ref e_spare, .int 21, .int 0, .ref e_leftLists, .ref e_rightLists, .ref e_nextMembers]))]) (w1 := [(w_reader, .inr (7, [.ref w_heap, .ref w_procedures, .ref r_tape, .int 0, .int 0, .int 0, .int 0, .ref r_members, .int 0, .ref r_opened, .int 0, .int 0, .int 1, .int 0, .ref r_newNames, .ref r_newInputs, .ref r_newBodies, .int 0, .int 0]))]) hP hD [0] [1] rfl rfl (by decide) (by decide) hk1 hFc hP1 hD1
  clear hP1 hD1 hK1 hvm hz1 hk1 hFc hKc hDc hPc
  subst ht
  generalize t9.heap = H at hP hS ⊢
  have hP : va_P (dC, dI) classes [(w_heap, .inr (1, [.ref e_lexicon, .int ((m_Heap_newWord_r 1)), .int ((m_Heap_newWord_r 7)), .int ((m_Heap_newWord_r 14)), .int 21, .ref e_cells, .ref e_spare, .int 21, .int 0, .ref e_leftLists, .ref e_rightLists, .ref e_nextMembers])), (w_reader, .inr (7, [.ref w_heap, .ref w_procedures, .ref r_tape, .int 0, .int 0, .int 0, .int 0, .ref r_members, .int 0, .ref r_opened, .int 0, .int 0, .int 1, .int 0, .ref r_newNames, .ref r_newInputs, .ref r_newBodies, .int 0, .int 0]))] H := hP
  have hD : va_D A [(w_heap, .inr (1, [.ref e_lexicon, .int ((m_Heap_newWord_r 1)), .int ((m_Heap_newWord_r 7)), .int ((m_Heap_newWord_r 14)), .int 21, .ref e_cells, .ref e_spare, .int 21, .int 0, .ref e_leftLists, .ref e_rightLists, .ref e_nextMembers])), (w_reader, .inr (7, [.ref w_heap, .ref w_procedures, .ref r_tape, .int 0, .int 0, .int 0, .int 0, .ref r_members, .int 0, .ref r_opened, .int 0, .int 0, .int 1, .int 0, .ref r_newNames, .ref r_newInputs, .ref r_newBodies, .int 0, .int 0]))] := hD
  refine lv_iconst (v := 0) hx hb d_Reader_read_13 (by decide) ?_
  refine lv_istore_n (lv' := [(3, .int 0), (2, .int 21), (0, .ref w_reader), (1, .int 1)]) hx hb d_Reader_read_14 rfl hl (by decide) rfl (fun ls hl => ?_)
  refine lv_iconst (v := 0) hx hb d_Reader_read_15 (by decide) ?_
  refine lv_istore (lv' := [(4, .int 0), (3, .int 0), (2, .int 21), (0, .ref w_reader), (1, .int 1)]) hx hb d_Reader_read_16 hl (by decide) rfl (fun ls hl => ?_)
  refine lv_iconst (v := 0) hx hb d_Reader_read_18 (by decide) ?_
  refine lv_istore (lv' := [(5, .int 0), (4, .int 0), (3, .int 0), (2, .int 21), (0, .ref w_reader), (1, .int 1)]) hx hb d_Reader_read_19 hl (by decide) rfl (fun ls hl => ?_)
  refine lv_iload hx hb d_Reader_read_21 (lv_at hl 0 rfl) ?_
  refine lv_sipush (v := 4000) hx hb d_Reader_read_23 (by decide) ?_
  refine lv_icmp_ge (tgt := 158) hx hb d_Reader_read_26 (by decide) (fun c_1 => ?_) (fun c_1 => ?_)
  · exact absurd c_1 (by decide)
  · refine lv_iload hx hb d_Reader_read_29 (lv_at hl 1 rfl) ?_
    refine lv_aload_n hx hb d_Reader_read_31 rfl (lv_at hl 4 rfl) ?_
    refine va_get (D := (dC, dI)) (ci := 7) (v := .int 0) (C := R_Reader) (T := F_Reader) (N := 19) hx hb htt iw_Reader hown hK hP 1 rfl rfl 3 (by decide) (htt _ lk_Reader_38) (fun _ h9 => h9) rfl d_Reader_read_32 ?_
    refine lv_icmp_ge (tgt := 158) hx hb d_Reader_read_35 (by decide) (fun c_2 => ?_) (fun c_2 => ?_)
    · refine lv_aload_n hx hb d_Reader_read_158 rfl (lv_at hl 4 rfl) ?_
      have hPc := hP.sub (ws' := [(w_reader, .inr (7, [.ref w_heap, .ref w_procedures, .ref r_tape, .int 0, .int 0, .int 0, .int 0, .ref r_members, .int 0, .ref r_opened, .int 0, .int 0, .int 1, .int 0, .ref r_newNames, .ref r_newInputs, .ref r_newBodies, .int 0, .int 0]))]) [1] rfl
      have hDc := hD.sub (ws' := [(w_reader, .inr (7, [.ref w_heap, .ref w_procedures, .ref r_tape, .int 0, .int 0, .int 0, .int 0, .ref r_members, .int 0, .ref r_opened, .int 0, .int 0, .int 1, .int 0, .ref r_newNames, .ref r_newInputs, .ref r_newBodies, .int 0, .int 0]))]) [1] (by decide) rfl
      have hKc := hK.sub (tys' := [(cI, .int)]) [0] rfl
      have hFc := va_free (wc := [(w_reader, .inr (7, [.ref w_heap, .ref w_procedures, .ref r_tape, .int 0, .int 0, .int 0, .int 0, .ref r_members, .int 0, .ref r_opened, .int 0, .int 0, .int 1, .int 0, .ref r_newNames, .ref r_newInputs, .ref r_newBodies, .int 0, .int 0]))]) hD hS hA [1] rfl
      refine va_callv (va_runV (As := []) (rest := []) ⟨hx, hb, hml, hown, hts⟩ (c_Reader_readEnd_c1 l dC dI H.size w_reader w_heap w_procedures r_tape r_members r_opened r_newNames r_newInputs r_newBodies cI) (cwV 0 hts (tw_GV tw_cons cw_Reader_readEnd lk_Reader_65 in_Reader_readEnd sel_Reader_readEnd ini_Reader) rfl rfl rfl (by decide +kernel) ⟨Nat.le_of_ble_eq_true rfl, Nat.le_of_ble_eq_true rfl⟩) ⟨fun a U g mk q => by obtain ⟨q0, q1, qP, qK, qD⟩ := q; exact ⟨q0, q1, qP, va_K.moved (u := U) (U := U.calling g mk a) (Vm.Alike.refl U.vm) qK, qD⟩, va_recv hKc hPc (ci := 7) (q0 := 0) rfl rfl, fun U hU hW => ⟨rfl, by rw [hU], by rw [hU]; exact hPc, va_K.moved hW.alike hKc, hDc.weaken (fun _ _ _ _ => trivial)⟩⟩ rfl rfl hl.1 rfl (lv_room (Nat.le_of_ble_eq_true rfl)) d_Reader_read_159 ⟨Nat.le_of_ble_eq_true rfl, Nat.le_of_ble_eq_true rfl⟩) hS (fun q _ h => hFc q h) hFc (fun u9 t9 H1 locs ht hvm e9 hB hz1 hk1 hS => ?_)
      obtain ⟨hP1, hK1, hD1⟩ := hB
      rw [ht] at hP1
      obtain ⟨hP, hD⟩ := va_join (wr := [(w_heap, .inr (1, [.ref e_lexicon, .int ((m_Heap_newWord_r 1)), .int ((m_Heap_newWord_r 7)), .int ((m_Heap_newWord_r 14)), .int 21, .ref e_cells, .ref e_spare, .int 21, .int 0, .ref e_leftLists, .ref e_rightLists, .ref e_nextMembers]))]) (w1 := [(w_reader, .inr (7, [.ref w_heap, .ref w_procedures, .ref r_tape, .int 0, .int 0, .int 0, .int 0, .ref r_members, .int 0, .ref r_opened, .int 0, .int 0, .int 1, .int 0, .ref r_newNames, .ref r_newInputs, .ref r_newBodies, .int 0, .int 0]))]) hP hD [1] [0] rfl rfl (by decide) (by decide) hk1 hFc hP1 hD1
      clear hP1 hD1 hK1 hvm hz1 hk1 hFc hKc hDc hPc
      subst ht
      generalize t9.heap = H at hP hS ⊢
      have hP : va_P (dC, dI) classes [(w_heap, .inr (1, [.ref e_lexicon, .int ((m_Heap_newWord_r 1)), .int ((m_Heap_newWord_r 7)), .int ((m_Heap_newWord_r 14)), .int 21, .ref e_cells, .ref e_spare, .int 21, .int 0, .ref e_leftLists, .ref e_rightLists, .ref e_nextMembers])), (w_reader, .inr (7, [.ref w_heap, .ref w_procedures, .ref r_tape, .int 0, .int 0, .int 0, .int 0, .ref r_members, .int 0, .ref r_opened, .int 0, .int 0, .int 1, .int 0, .ref r_newNames, .ref r_newInputs, .ref r_newBodies, .int 0, .int 0]))] H := hP
      have hD : va_D A [(w_heap, .inr (1, [.ref e_lexicon, .int ((m_Heap_newWord_r 1)), .int ((m_Heap_newWord_r 7)), .int ((m_Heap_newWord_r 14)), .int 21, .ref e_cells, .ref e_spare, .int 21, .int 0, .ref e_leftLists, .ref e_rightLists, .ref e_nextMembers])), (w_reader, .inr (7, [.ref w_heap, .ref w_procedures, .ref r_tape, .int 0, .int 0, .int 0, .int 0, .ref r_members, .int 0, .ref r_opened, .int 0, .int 0, .int 1, .int 0, .ref r_newNames, .ref r_newInputs, .ref r_newBodies, .int 0, .int 0]))] := hD
      refine lv_aload_n hx hb d_Reader_read_162 rfl (lv_at hl 4 rfl) ?_
      refine va_get (D := (dC, dI)) (ci := 7) (v := .int 0) (C := R_Reader) (T := F_Reader) (N := 19) hx hb htt iw_Reader hown hK hP 1 rfl rfl 5 (by decide) (htt _ lk_Reader_51) (fun _ h9 => h9) rfl d_Reader_read_163 ?_
      refine lv_if_eq (tgt := 177) hx hb d_Reader_read_166 (by decide) (fun c_3 => ?_) (fun c_3 => ?_)
      · refine lv_aload_n hx hb d_Reader_read_177 rfl (lv_at hl 4 rfl) ?_
        refine lv_iconst (v := 0) hx hb d_Reader_read_178 (by decide) ?_
        refine va_put (D := (dC, dI)) (ci := 7) (v := .int 0) (ty := .int) (C := R_Reader) (T := F_Reader) (N := 19) hx hb htt iw_Reader t_Reader t_Reader_ok n_Reader hown hK hP hD hS 1 rfl rfl 3 (by decide) (htt _ lk_Reader_38) (fun _ h9 => h9) rfl (by decide +kernel) rfl rfl (Nat.le_of_ble_eq_true rfl) d_Reader_read_179 (fun H locs hP hD hS => ?_)
        have hP : va_P (dC, dI) classes [(w_heap, .inr (1, [.ref e_lexicon, .int ((m_Heap_newWord_r 1)), .int ((m_Heap_newWord_r 7)), .int ((m_Heap_newWord_r 14)), .int 21, .ref e_cells, .ref e_spare, .int 21, .int 0, .ref e_leftLists, .ref e_rightLists, .ref e_nextMembers])), (w_reader, .inr (7, [.ref w_heap, .ref w_procedures, .ref r_tape, .int 0, .int 0, .int 0, .int 0, .ref r_members, .int 0, .ref r_opened, .int 0, .int 0, .int 1, .int 0, .ref r_newNames, .ref r_newInputs, .ref r_newBodies, .int 0, .int 0]))] H := hP
        have hD : va_D A [(w_heap, .inr (1, [.ref e_lexicon, .int ((m_Heap_newWord_r 1)), .int ((m_Heap_newWord_r 7)), .int ((m_Heap_newWord_r 14)), .int 21, .ref e_cells, .ref e_spare, .int 21, .int 0, .ref e_leftLists, .ref e_rightLists, .ref e_nextMembers])), (w_reader, .inr (7, [.ref w_heap, .ref w_procedures, .ref r_tape, .int 0, .int 0, .int 0, .int 0, .ref r_members, .int 0, .ref r_opened, .int 0, .int 0, .int 1, .int 0, .ref r_newNames, .ref r_newInputs, .ref r_newBodies, .int 0, .int 0]))] := hD
        refine lv_aload_n hx hb d_Reader_read_182 rfl (lv_at hl 4 rfl) ?_
        refine va_get (D := (dC, dI)) (ci := 7) (v := .int 0) (C := R_Reader) (T := F_Reader) (N := 19) hx hb htt iw_Reader hown hK hP 1 rfl rfl 5 (by decide) (htt _ lk_Reader_51) (fun _ h9 => h9) rfl d_Reader_read_183 ?_
        refine lv_if_ne (tgt := 193) hx hb d_Reader_read_186 (by decide) (fun c_4 => ?_) (fun c_4 => ?_)
        · exact absurd c_4 (by decide)
        · refine lv_iconst (v := 1) hx hb d_Reader_read_189 (by decide) ?_
          refine lv_goto (tgt := 194) hx hb d_Reader_read_190 (by decide) ?_
          have hP9 := hP.sub (ws' := [(w_reader, .inr (7, [.ref w_heap, .ref w_procedures, .ref r_tape, .int 0, .int 0, .int 0, .int 0, .ref r_members, .int 0, .ref r_opened, .int 0, .int 0, .int 1, .int 0, .ref r_newNames, .ref r_newInputs, .ref r_newBodies, .int 0, .int 0])), (w_heap, .inr (1, [.ref e_lexicon, .int ((m_Heap_newWord_r 1)), .int ((m_Heap_newWord_r 7)), .int ((m_Heap_newWord_r 14)), .int 21, .ref e_cells, .ref e_spare, .int 21, .int 0, .ref e_leftLists, .ref e_rightLists, .ref e_nextMembers]))]) [1, 0] rfl
          have hD9 := hD.sub (ws' := [(w_reader, .inr (7, [.ref w_heap, .ref w_procedures, .ref r_tape, .int 0, .int 0, .int 0, .int 0, .ref r_members, .int 0, .ref r_opened, .int 0, .int 0, .int 1, .int 0, .ref r_newNames, .ref r_newInputs, .ref r_newBodies, .int 0, .int 0])), (w_heap, .inr (1, [.ref e_lexicon, .int ((m_Heap_newWord_r 1)), .int ((m_Heap_newWord_r 7)), .int ((m_Heap_newWord_r 14)), .int 21, .ref e_cells, .ref e_spare, .int 21, .int 0, .ref e_leftLists, .ref e_rightLists, .ref e_nextMembers]))]) [1, 0] (by decide) rfl
          exact W.zret (v := 1) hx hb hr (by decide) (fun t9 ht hW => ⟨⟨1, (), rfl, rfl, by rw [ht]; exact hP9, va_K.moved hW.alike hK, hD9⟩, hS.F ht⟩) hS.2.2 d_Reader_read_194
      · exact absurd c_3 (by decide)
    · exact absurd c_2 (by decide)

set_option maxHeartbeats 4000000 in
set_option maxRecDepth 100000 in
theorem c_Reader_tellAll_c1 (l : Launch) (dC : Nat → ClassId) (dI : Nat → Nat → Nat) (sz : Nat) (w_reader : Nat) (w_heap : Nat) (w_procedures : Nat) (r_tape : Nat) (r_members : Nat) (r_opened : Nat) (r_newNames : Nat) (r_newInputs : Nat) (r_newBodies : Nat) (cI : ClassId)  : Met l y_Reader_tellAll w_Reader_tellAll ({ frames := 0, cells := 0, slots := 0, locals := 0 }) (va_Pc [.ref w_reader] (fun U => U.heap.size = sz ∧ va_P (dC, dI) classes [(w_reader, .inr (7, [.ref w_heap, .ref w_procedures, .ref r_tape, .int 0, .int 0, .int 0, .int 0, .ref r_members, .int 0, .ref r_opened, .int 0, .int 0, .int 1, .int 0, .ref r_newNames, .ref r_newInputs, .ref r_newBodies, .int 0, .int 0]))] U.heap ∧ va_K (dC, dI) classes [(cI, .int)] U ∧ va_D (fun _ => True) [(w_reader, .inr (7, [.ref w_heap, .ref w_procedures, .ref r_tape, .int 0, .int 0, .int 0, .int 0, .ref r_members, .int 0, .ref r_opened, .int 0, .int 0, .int 1, .int 0, .ref r_newNames, .ref r_newInputs, .ref r_newBodies, .int 0, .int 0]))])) (va_Qi (fun (r : Int32) (_ : Unit) => r = 0) (fun (_ : Unit) t => va_P (dC, dI) classes [(w_reader, .inr (7, [.ref w_heap, .ref w_procedures, .ref r_tape, .int 0, .int 0, .int 0, .int 0, .ref r_members, .int 0, .ref r_opened, .int 0, .int 0, .int 1, .int 0, .ref r_newNames, .ref r_newInputs, .ref r_newBodies, .int 0, .int 0]))] t.heap ∧ va_K (dC, dI) classes [(cI, .int)] t ∧ va_D (va_A [(w_reader, .inr (7, [.ref w_heap, .ref w_procedures, .ref r_tape, .int 0, .int 0, .int 0, .int 0, .ref r_members, .int 0, .ref r_opened, .int 0, .int 0, .int 1, .int 0, .ref r_newNames, .ref r_newInputs, .ref r_newBodies, .int 0, .int 0]))] sz) [(w_reader, .inr (7, [.ref w_heap, .ref w_procedures, .ref r_tape, .int 0, .int 0, .int 0, .int 0, .ref r_members, .int 0, .ref r_opened, .int 0, .int 0, .int 1, .int 0, .ref r_newNames, .ref r_newInputs, .ref r_newBodies, .int 0, .int 0]))]) (va_A [(w_reader, .inr (7, [.ref w_heap, .ref w_procedures, .ref r_tape, .int 0, .int 0, .int 0, .int 0, .ref r_members, .int 0, .ref r_opened, .int 0, .int 0, .int 1, .int 0, .ref r_newNames, .ref r_newInputs, .ref r_newBodies, .int 0, .int 0]))] sz)) 0 0 (va_A [(w_reader, .inr (7, [.ref w_heap, .ref w_procedures, .ref r_tape, .int 0, .int 0, .int 0, .int 0, .ref r_members, .int 0, .ref r_opened, .int 0, .int 0, .int 1, .int 0, .ref r_newNames, .ref r_newInputs, .ref r_newBodies, .int 0, .int 0]))] sz) := by
  refine Met.ofW (cc := b_Reader_tellAll) (maxL := 2) (ret := (some .int)) (by decide) rfl ?_
  intro p e s m args below meth c s₁ B hml hv
  obtain ⟨rfl, hsz, hP, hK, hD0⟩ := hv
  have hx := B.exec
  have hb := B.bytes
  have hr := B.returns
  have hts := atoms_spec (ws := w_Reader_tellAll) B.pre
  have htt : ∀ w ∈ tw_T, w.before _ s = true := fun w h => hts w (List.mem_cons_of_mem _ h)
  have hown : s.vm.findClass R_Reader = some m.cls := findClass_of_methodNamed B.named
  have hlocks := B.notSynchronized
  subst hsz
  have hD := hD0.self (sz := s.heap.size)
  generalize hAe : va_A [(w_reader, .inr (7, [.ref w_heap, .ref w_procedures, .ref r_tape, .int 0, .int 0, .int 0, .int 0, .ref r_members, .int 0, .ref r_opened, .int 0, .int 0, .int 1, .int 0, .ref r_newNames, .ref r_newInputs, .ref r_newBodies, .int 0, .int 0]))] s.heap.size = A at hD ⊢
  have hA : ∀ q : Nat, s.heap.size ≤ q → A q := fun q h => by rw [← hAe]; exact Or.inr h
  have hS : va_S A s.heap s.heap [] := va_S.rf
  have hP : va_P (dC, dI) classes [(w_reader, .inr (7, [.ref w_heap, .ref w_procedures, .ref r_tape, .int 0, .int 0, .int 0, .int 0, .ref r_members, .int 0, .ref r_opened, .int 0, .int 0, .int 1, .int 0, .ref r_newNames, .ref r_newInputs, .ref r_newBodies, .int 0, .int 0]))] s.heap := hP
  have hl := lv_entry ([.ref w_reader]) (n := 2) (Nat.le_of_ble_eq_true rfl)
  rw [lg_entry_eq]
  generalize (lg_sl ([.ref w_reader]) ++ List.replicate (2 - (lg_sl ([.ref w_reader])).length) Slot.unset).toArray = ls at hl ⊢
  have hl : lv_has ls 2 [(0, .ref w_reader)] := hl
  refine lv_iconst (v := 0) hx hb d_Reader_tellAll_0 (by decide) ?_
  refine lv_istore_n (lv' := [(1, .int 0), (0, .ref w_reader)]) hx hb d_Reader_tellAll_1 rfl hl (by decide) rfl (fun ls hl => ?_)
  refine lv_iload_n hx hb d_Reader_tellAll_2 rfl (lv_at hl 0 rfl) ?_
  refine lv_aload_n hx hb d_Reader_tellAll_3 rfl (lv_at hl 1 rfl) ?_
  refine va_get (D := (dC, dI)) (ci := 7) (v := .int 0) (C := R_Reader) (T := F_Reader) (N := 19) hx hb htt iw_Reader hown hK hP 0 rfl rfl 17 (by decide) (htt _ lk_Reader_84) (fun _ h9 => h9) rfl d_Reader_tellAll_4 ?_
  refine lv_icmp_ge (tgt := 42) hx hb d_Reader_tellAll_7 (by decide) (fun c_1 => ?_) (fun c_1 => ?_)
  · refine lv_aload_n hx hb d_Reader_tellAll_42 rfl (lv_at hl 1 rfl) ?_
    refine va_get (D := (dC, dI)) (ci := 7) (v := .int 0) (C := R_Reader) (T := F_Reader) (N := 19) hx hb htt iw_Reader hown hK hP 0 rfl rfl 17 (by decide) (htt _ lk_Reader_84) (fun _ h9 => h9) rfl d_Reader_tellAll_43 ?_
    have hP9 := hP.sub (ws' := [(w_reader, .inr (7, [.ref w_heap, .ref w_procedures, .ref r_tape, .int 0, .int 0, .int 0, .int 0, .ref r_members, .int 0, .ref r_opened, .int 0, .int 0, .int 1, .int 0, .ref r_newNames, .ref r_newInputs, .ref r_newBodies, .int 0, .int 0]))]) [0] rfl
    have hD9 := hD.sub (ws' := [(w_reader, .inr (7, [.ref w_heap, .ref w_procedures, .ref r_tape, .int 0, .int 0, .int 0, .int 0, .ref r_members, .int 0, .ref r_opened, .int 0, .int 0, .int 1, .int 0, .ref r_newNames, .ref r_newInputs, .ref r_newBodies, .int 0, .int 0]))]) [0] (by decide) rfl
    exact W.iret (v := 0) hx hb hr (fun t9 ht hW => ⟨⟨0, (), rfl, rfl, by rw [ht]; exact hP9, va_K.moved hW.alike hK, hD9⟩, hS.F ht⟩) hS.2.2 d_Reader_tellAll_46
  · exact absurd c_1 (by decide)

set_option maxHeartbeats 4000000 in
set_option maxRecDepth 100000 in
theorem c_World_define_c1 (l : Launch) (dC : Nat → ClassId) (dI : Nat → Nat → Nat) (sz : Nat) (hw : Nat) (w_heap : Nat) (w_names : Nat) (w_procedures : Nat) (w_turtles : Nat) (w_output : Nat) (w_reader : Nat) (w_line : Nat) (w_deeds : Nat) (w_machine : Nat) (l_kind : Nat) (l_list : Nat) (l_next : Nat) (l_turns : Nat) (l_limit : Nat) (l_other : Nat) (l_mark : Nat) (l_waits : Nat) (l_values : Nat) (l_locals : Nat) (r_tape : Nat) (r_members : Nat) (r_opened : Nat) (r_newNames : Nat) (r_newInputs : Nat) (r_newBodies : Nat) (e_lexicon : Nat) (e_cells : Nat) (e_spare : Nat) (e_leftLists : Nat) (e_rightLists : Nat) (e_nextMembers : Nat) (cI : ClassId)  : Met l y_World_define w_World_define ({ frames := 2, cells := 0, slots := 0, locals := 48 }) (va_Pc [.ref hw] (fun U => U.heap.size = sz ∧ va_P (dC, dI) classes [(hw, .inr (0, [.ref w_heap, .ref w_names, .ref w_procedures, .ref w_turtles, .ref w_output, .ref w_reader, .ref w_line, .ref w_deeds, .ref w_machine, .int 0, .int 0, .int 0, .int 0])), (w_line, .inr (8, [.ref w_heap, .int 0, .int 0, .int 0, .int 0, .int 0, .int 0, .int 0, .ref l_kind, .ref l_list, .ref l_next, .ref l_turns, .ref l_limit, .ref l_other, .ref l_mark, .ref l_waits, .ref l_values, .ref l_locals])), (w_reader, .inr (7, [.ref w_heap, .ref w_procedures, .ref r_tape, .int 0, .int 0, .int 0, .int 0, .ref r_members, .int 0, .ref r_opened, .int 0, .int 0, .int 0, .int 0, .ref r_newNames, .ref r_newInputs, .ref r_newBodies, .int 0, .int 0])), (w_heap, .inr (1, [.ref e_lexicon, .int ((m_Heap_newWord_r 1)), .int ((m_Heap_newWord_r 7)), .int ((m_Heap_newWord_r 14)), .int 21, .ref e_cells, .ref e_spare, .int 21, .int 0, .ref e_leftLists, .ref e_rightLists, .ref e_nextMembers]))] U.heap ∧ va_K (dC, dI) classes [(cI, .int)] U ∧ va_D (fun _ => True) [(hw, .inr (0, [.ref w_heap, .ref w_names, .ref w_procedures, .ref w_turtles, .ref w_output, .ref w_reader, .ref w_line, .ref w_deeds, .ref w_machine, .int 0, .int 0, .int 0, .int 0])), (w_line, .inr (8, [.ref w_heap, .int 0, .int 0, .int 0, .int 0, .int 0, .int 0, .int 0, .ref l_kind, .ref l_list, .ref l_next, .ref l_turns, .ref l_limit, .ref l_other, .ref l_mark, .ref l_waits, .ref l_values, .ref l_locals])), (w_reader, .inr (7, [.ref w_heap, .ref w_procedures, .ref r_tape, .int 0, .int 0, .int 0, .int 0, .ref r_members, .int 0, .ref r_opened, .int 0, .int 0, .int 0, .int 0, .ref r_newNames, .ref r_newInputs, .ref r_newBodies, .int 0, .int 0])), (w_heap, .inr (1, [.ref e_lexicon, .int ((m_Heap_newWord_r 1)), .int ((m_Heap_newWord_r 7)), .int ((m_Heap_newWord_r 14)), .int 21, .ref e_cells, .ref e_spare, .int 21, .int 0, .ref e_leftLists, .ref e_rightLists, .ref e_nextMembers]))])) (va_Qi (fun (r : Int32) (_ : Unit) => r = 0) (fun (_ : Unit) t => va_P (dC, dI) classes [(hw, .inr (0, [.ref w_heap, .ref w_names, .ref w_procedures, .ref w_turtles, .ref w_output, .ref w_reader, .ref w_line, .ref w_deeds, .ref w_machine, .int 0, .int 0, .int 0, .int 0])), (w_line, .inr (8, [.ref w_heap, .int 0, .int 0, .int 0, .int 0, .int 0, .int 0, .int 0, .ref l_kind, .ref l_list, .ref l_next, .ref l_turns, .ref l_limit, .ref l_other, .ref l_mark, .ref l_waits, .ref l_values, .ref l_locals])), (w_reader, .inr (7, [.ref w_heap, .ref w_procedures, .ref r_tape, .int 0, .int 0, .int 0, .int 0, .ref r_members, .int 0, .ref r_opened, .int 0, .int 0, .int 1, .int 0, .ref r_newNames, .ref r_newInputs, .ref r_newBodies, .int 0, .int 0])), (w_heap, .inr (1, [.ref e_lexicon, .int ((m_Heap_newWord_r 1)), .int ((m_Heap_newWord_r 7)), .int ((m_Heap_newWord_r 14)), .int 21, .ref e_cells, .ref e_spare, .int 21, .int 0, .ref e_leftLists, .ref e_rightLists, .ref e_nextMembers]))] t.heap ∧ va_K (dC, dI) classes [(cI, .int)] t ∧ va_D (va_A [(hw, .inr (0, [.ref w_heap, .ref w_names, .ref w_procedures, .ref w_turtles, .ref w_output, .ref w_reader, .ref w_line, .ref w_deeds, .ref w_machine, .int 0, .int 0, .int 0, .int 0])), (w_line, .inr (8, [.ref w_heap, .int 0, .int 0, .int 0, .int 0, .int 0, .int 0, .int 0, .ref l_kind, .ref l_list, .ref l_next, .ref l_turns, .ref l_limit, .ref l_other, .ref l_mark, .ref l_waits, .ref l_values, .ref l_locals])), (w_reader, .inr (7, [.ref w_heap, .ref w_procedures, .ref r_tape, .int 0, .int 0, .int 0, .int 0, .ref r_members, .int 0, .ref r_opened, .int 0, .int 0, .int 0, .int 0, .ref r_newNames, .ref r_newInputs, .ref r_newBodies, .int 0, .int 0])), (w_heap, .inr (1, [.ref e_lexicon, .int ((m_Heap_newWord_r 1)), .int ((m_Heap_newWord_r 7)), .int ((m_Heap_newWord_r 14)), .int 21, .ref e_cells, .ref e_spare, .int 21, .int 0, .ref e_leftLists, .ref e_rightLists, .ref e_nextMembers]))] sz) [(hw, .inr (0, [.ref w_heap, .ref w_names, .ref w_procedures, .ref w_turtles, .ref w_output, .ref w_reader, .ref w_line, .ref w_deeds, .ref w_machine, .int 0, .int 0, .int 0, .int 0])), (w_line, .inr (8, [.ref w_heap, .int 0, .int 0, .int 0, .int 0, .int 0, .int 0, .int 0, .ref l_kind, .ref l_list, .ref l_next, .ref l_turns, .ref l_limit, .ref l_other, .ref l_mark, .ref l_waits, .ref l_values, .ref l_locals])), (w_reader, .inr (7, [.ref w_heap, .ref w_procedures, .ref r_tape, .int 0, .int 0, .int 0, .int 0, .ref r_members, .int 0, .ref r_opened, .int 0, .int 0, .int 1, .int 0, .ref r_newNames, .ref r_newInputs, .ref r_newBodies, .int 0, .int 0])), (w_heap, .inr (1, [.ref e_lexicon, .int ((m_Heap_newWord_r 1)), .int ((m_Heap_newWord_r 7)), .int ((m_Heap_newWord_r 14)), .int 21, .ref e_cells, .ref e_spare, .int 21, .int 0, .ref e_leftLists, .ref e_rightLists, .ref e_nextMembers]))]) (va_A [(hw, .inr (0, [.ref w_heap, .ref w_names, .ref w_procedures, .ref w_turtles, .ref w_output, .ref w_reader, .ref w_line, .ref w_deeds, .ref w_machine, .int 0, .int 0, .int 0, .int 0])), (w_line, .inr (8, [.ref w_heap, .int 0, .int 0, .int 0, .int 0, .int 0, .int 0, .int 0, .ref l_kind, .ref l_list, .ref l_next, .ref l_turns, .ref l_limit, .ref l_other, .ref l_mark, .ref l_waits, .ref l_values, .ref l_locals])), (w_reader, .inr (7, [.ref w_heap, .ref w_procedures, .ref r_tape, .int 0, .int 0, .int 0, .int 0, .ref r_members, .int 0, .ref r_opened, .int 0, .int 0, .int 0, .int 0, .ref r_newNames, .ref r_newInputs, .ref r_newBodies, .int 0, .int 0])), (w_heap, .inr (1, [.ref e_lexicon, .int ((m_Heap_newWord_r 1)), .int ((m_Heap_newWord_r 7)), .int ((m_Heap_newWord_r 14)), .int 21, .ref e_cells, .ref e_spare, .int 21, .int 0, .ref e_leftLists, .ref e_rightLists, .ref e_nextMembers]))] sz)) 0 0 (va_A [(hw, .inr (0, [.ref w_heap, .ref w_names, .ref w_procedures, .ref w_turtles, .ref w_output, .ref w_reader, .ref w_line, .ref w_deeds, .ref w_machine, .int 0, .int 0, .int 0, .int 0])), (w_line, .inr (8, [.ref w_heap, .int 0, .int 0, .int 0, .int 0, .int 0, .int 0, .int 0, .ref l_kind, .ref l_list, .ref l_next, .ref l_turns, .ref l_limit, .ref l_other, .ref l_mark, .ref l_waits, .ref l_values, .ref l_locals])), (w_reader, .inr (7, [.ref w_heap, .ref w_procedures, .ref r_tape, .int 0, .int 0, .int 0, .int 0, .ref r_members, .int 0, .ref r_opened, .int 0, .int 0, .int 0, .int 0, .ref r_newNames, .ref r_newInputs, .ref r_newBodies, .int 0, .int 0])), (w_heap, .inr (1, [.ref e_lexicon, .int ((m_Heap_newWord_r 1)), .int ((m_Heap_newWord_r 7)), .int ((m_Heap_newWord_r 14)), .int 21, .ref e_cells, .ref e_spare, .int 21, .int 0, .ref e_leftLists, .ref e_rightLists, .ref e_nextMembers]))] sz) := by
  refine Met.ofW (cc := b_World_define) (maxL := 2) (ret := (some .int)) (by decide) rfl ?_
  intro p e s m args below meth c s₁ B hml hv
  obtain ⟨rfl, hsz, hP, hK, hD0⟩ := hv
  have hx := B.exec
  have hb := B.bytes
  have hr := B.returns
  have hts := atoms_spec (ws := w_World_define) B.pre
  have htt : ∀ w ∈ tw_T, w.before _ s = true := fun w h => hts w (List.mem_cons_of_mem _ h)
  have hown : s.vm.findClass R_World = some m.cls := findClass_of_methodNamed B.named
  have hlocks := B.notSynchronized
  subst hsz
  have hD := hD0.self (sz := s.heap.size)
  generalize hAe : va_A [(hw, .inr (0, [.ref w_heap, .ref w_names, .ref w_procedures, .ref w_turtles, .ref w_output, .ref w_reader, .ref w_line, .ref w_deeds, .ref w_machine, .int 0, .int 0, .int 0, .int 0])), (w_line, .inr (8, [.ref w_heap, .int 0, .int 0, .int 0, .int 0, .int 0, .int 0, .int 0, .ref l_kind, .ref l_list, .ref l_next, .ref l_turns, .ref l_limit, .ref l_other, .ref l_mark, .ref l_waits, .ref l_values, .ref l_locals])), (w_reader, .inr (7, [.ref w_heap, .ref w_procedures, .ref r_tape, .int 0, .int 0, .int 0, .int 0, .ref r_members, .int 0, .ref r_opened, .int 0, .int 0, .int 0, .int 0, .ref r_newNames, .ref r_newInputs, .ref r_newBodies, .int 0, .int 0])), (w_heap, .inr (1, [.ref e_lexicon, .int ((m_Heap_newWord_r 1)), .int ((m_Heap_newWord_r 7)), .int ((m_Heap_newWord_r 14)), .int 21, .ref e_cells, .ref e_spare, .int 21, .int 0, .ref e_leftLists, .ref e_rightLists, .ref e_nextMembers]))] s.heap.size = A at hD ⊢
  have hA : ∀ q : Nat, s.heap.size ≤ q → A q := fun q h => by rw [← hAe]; exact Or.inr h
  have hS : va_S A s.heap s.heap [] := va_S.rf
  have hP : va_P (dC, dI) classes [(hw, .inr (0, [.ref w_heap, .ref w_names, .ref w_procedures, .ref w_turtles, .ref w_output, .ref w_reader, .ref w_line, .ref w_deeds, .ref w_machine, .int 0, .int 0, .int 0, .int 0])), (w_line, .inr (8, [.ref w_heap, .int 0, .int 0, .int 0, .int 0, .int 0, .int 0, .int 0, .ref l_kind, .ref l_list, .ref l_next, .ref l_turns, .ref l_limit, .ref l_other, .ref l_mark, .ref l_waits, .ref l_values, .ref l_locals])), (w_reader, .inr (7, [.ref w_heap, .ref w_procedures, .ref r_tape, .int 0, .int 0, .int 0, .int 0, .ref r_members, .int 0, .ref r_opened, .int 0, .int 0, .int 0, .int 0, .ref r_newNames, .ref r_newInputs, .ref r_newBodies, .int 0, .int 0])), (w_heap, .inr (1, [.ref e_lexicon, .int ((m_Heap_newWord_r 1)), .int ((m_Heap_newWord_r 7)), .int ((m_Heap_newWord_r 14)), .int 21, .ref e_cells, .ref e_spare, .int 21, .int 0, .ref e_leftLists, .ref e_rightLists, .ref e_nextMembers]))] s.heap := hP
  have hl := lv_entry ([.ref hw]) (n := 2) (Nat.le_of_ble_eq_true rfl)
  rw [lg_entry_eq]
  generalize (lg_sl ([.ref hw]) ++ List.replicate (2 - (lg_sl ([.ref hw])).length) Slot.unset).toArray = ls at hl ⊢
  have hl : lv_has ls 2 [(0, .ref hw)] := hl
  refine lv_aload_n hx hb d_World_define_0 rfl (lv_at hl 0 rfl) ?_
  refine va_get (D := (dC, dI)) (ci := 0) (v := .ref w_line) (C := R_World) (T := F_World) (N := 13) hx hb htt iw_World hown hK hP 0 rfl rfl 6 (by decide) (htt _ lk_World_63) (fun _ h9 => h9) rfl d_World_define_1 ?_
  refine va_get (D := (dC, dI)) (ci := 8) (v := .int 0) (C := R_Line) (T := F_Line) (N := 18) hx hb htt iw_Line hown hK hP 1 rfl rfl 1 (by decide) (htt _ lk_World_100) (fun _ h9 => h9) rfl d_World_define_4 ?_
  refine lv_iconst (v := 1) hx hb d_World_define_7 (by decide) ?_
  refine lv_icmp_ne (tgt := 14) hx hb d_World_define_8 (by decide) (fun c_1 => ?_) (fun c_1 => ?_)
  · refine lv_aload_n hx hb d_World_define_14 rfl (lv_at hl 0 rfl) ?_
    refine va_get (D := (dC, dI)) (ci := 0) (v := .ref w_reader) (C := R_World) (T := F_World) (N := 13) hx hb htt iw_World hown hK hP 0 rfl rfl 5 (by decide) (htt _ lk_World_56) (fun _ h9 => h9) rfl d_World_define_15 ?_
    refine lv_iconst (v := 1) hx hb d_World_define_18 (by decide) ?_
    have hPc := hP.sub (ws' := [(w_reader, .inr (7, [.ref w_heap, .ref w_procedures, .ref r_tape, .int 0, .int 0, .int 0, .int 0, .ref r_members, .int 0, .ref r_opened, .int 0, .int 0, .int 0, .int 0, .ref r_newNames, .ref r_newInputs, .ref r_newBodies, .int 0, .int 0])), (w_heap, .inr (1, [.ref e_lexicon, .int ((m_Heap_newWord_r 1)), .int ((m_Heap_newWord_r 7)), .int ((m_Heap_newWord_r 14)), .int 21, .ref e_cells, .ref e_spare, .int 21, .int 0, .ref e_leftLists, .ref e_rightLists, .ref e_nextMembers]))]) [2, 3] rfl
    have hDc := hD.sub (ws' := [(w_reader, .inr (7, [.ref w_heap, .ref w_procedures, .ref r_tape, .int 0, .int 0, .int 0, .int 0, .ref r_members, .int 0, .ref r_opened, .int 0, .int 0, .int 0, .int 0, .ref r_newNames, .ref r_newInputs, .ref r_newBodies, .int 0, .int 0])), (w_heap, .inr (1, [.ref e_lexicon, .int ((m_Heap_newWord_r 1)), .int ((m_Heap_newWord_r 7)), .int ((m_Heap_newWord_r 14)), .int 21, .ref e_cells, .ref e_spare, .int 21, .int 0, .ref e_leftLists, .ref e_rightLists, .ref e_nextMembers]))]) [2, 3] (by decide) rfl
    have hKc := hK.sub (tys' := [(cI, .int)]) [0] rfl
    have hFc := va_free (wc := [(w_reader, .inr (7, [.ref w_heap, .ref w_procedures, .ref r_tape, .int 0, .int 0, .int 0, .int 0, .ref r_members, .int 0, .ref r_opened, .int 0, .int 0, .int 0, .int 0, .ref r_newNames, .ref r_newInputs, .ref r_newBodies, .int 0, .int 0])), (w_heap, .inr (1, [.ref e_lexicon, .int ((m_Heap_newWord_r 1)), .int ((m_Heap_newWord_r 7)), .int ((m_Heap_newWord_r 14)), .int 21, .ref e_cells, .ref e_spare, .int 21, .int 0, .ref e_leftLists, .ref e_rightLists, .ref e_nextMembers]))]) hD hS hA [2, 3] rfl
    refine va_calli (va_runV (As := [.int 1]) (rest := []) ⟨hx, hb, hml, hown, hts⟩ (c_Reader_read_c1 l dC dI s.heap.size w_reader w_heap w_procedures r_tape r_members r_opened r_newNames r_newInputs r_newBodies e_lexicon e_cells e_spare e_leftLists e_rightLists e_nextMembers cI) (cwV 1 hts (tw_GV tw_cons cw_Reader_read lk_World_104 in_Reader_read sel_Reader_read ini_Reader) rfl rfl rfl (by decide +kernel) ⟨Nat.le_of_ble_eq_true rfl, Nat.le_of_ble_eq_true rfl⟩) ⟨fun a U g mk q => by obtain ⟨q0, q1, qP, qK, qD⟩ := q; exact ⟨q0, q1, qP, va_K.moved (u := U) (U := U.calling g mk a) (Vm.Alike.refl U.vm) qK, qD⟩, va_recv hKc hPc (ci := 7) (q0 := 0) rfl rfl, fun U hU hW => ⟨rfl, by rw [hU], by rw [hU]; exact hPc, va_K.moved hW.alike hKc, hDc.weaken (fun _ _ _ _ => trivial)⟩⟩ rfl rfl hl.1 rfl (lv_room (Nat.le_of_ble_eq_true rfl)) d_World_define_19 ⟨Nat.le_of_ble_eq_true rfl, Nat.le_of_ble_eq_true rfl⟩) hS (fun q _ h => hFc q h) hFc (fun r9 u9 t9 H1 locs ht hvm e9 hB hz1 hk1 hS => ?_)
    obtain ⟨hP1, hK1, hD1⟩ := hB
    rw [ht] at hP1
    obtain ⟨hP, hD⟩ := va_join (wr := [(hw, .inr (0, [.ref w_heap, .ref w_names, .ref w_procedures, .ref w_turtles, .ref w_output, .ref w_reader, .ref w_line, .ref w_deeds, .ref w_machine, .int 0, .int 0, .int 0, .int 0])), (w_line, .inr (8, [.ref w_heap, .int 0, .int 0, .int 0, .int 0, .int 0, .int 0, .int 0, .ref l_kind, .ref l_list, .ref l_next, .ref l_turns, .ref l_limit, .ref l_other, .ref l_mark, .ref l_waits, .ref l_values, .ref l_locals]))]) (w1 := [(w_reader, .inr (7, [.ref w_heap, .ref w_procedures, .ref r_tape, .int 0, .int 0, .int 0, .int 0, .ref r_members, .int 0, .ref r_opened, .int 0, .int 0, .int 1, .int 0, .ref r_newNames, .ref r_newInputs, .ref r_newBodies, .int 0, .int 0])), (w_heap, .inr (1, [.ref e_lexicon, .int ((m_Heap_newWord_r 1)), .int ((m_Heap_newWord_r 7)), .int ((m_Heap_newWord_r 14)), .int 21, .ref e_cells, .ref e_spare, .int 21, .int 0, .ref e_leftLists, .ref e_rightLists, .ref e_nextMembers]))]) hP hD [2, 3] [0, 1] rfl rfl (by decide) (by decide) hk1 hFc hP1 hD1
    subst e9
    clear hP1 hD1 hK1 hvm hz1 hk1 hFc hKc hDc hPc
    subst ht
    generalize t9.heap = H at hP hS ⊢
    have hP : va_P (dC, dI) classes [(hw, .inr (0, [.ref w_heap, .ref w_names, .ref w_procedures, .ref w_turtles, .ref w_output, .ref w_reader, .ref w_line, .ref w_deeds, .ref w_machine, .int 0, .int 0, .int 0, .int 0])), (w_line, .inr (8, [.ref w_heap, .int 0, .int 0, .int 0, .int 0, .int 0, .int 0, .int 0, .ref l_kind, .ref l_list, .ref l_next, .ref l_turns, .ref l_limit, .ref l_other, .ref l_mark, .ref l_waits, .ref l_values, .ref l_locals])), (w_reader, .inr (7, [.ref w_heap, .ref w_procedures, .ref r_tape, .int 0, .int 0, .int 0, .int 0, .ref r_members, .int 0, .ref r_opened, .int 0, .int 0, .int 1, .int 0, .ref r_newNames, .ref r_newInputs, .ref r_newBodies, .int 0, .int 0])), (w_heap, .inr (1, [.ref e_lexicon, .int ((m_Heap_newWord_r 1)), .int ((m_Heap_newWord_r 7)), .int ((m_Heap_newWord_r 14)), .int 21, .ref e_cells, .ref e_spare, .int 21, .int 0, .ref e_leftLists, .ref e_rightLists, .ref e_nextMembers]))] H := hP
    have hD : va_D A [(hw, .inr (0, [.ref w_heap, .ref w_names, .ref w_procedures, .ref w_turtles, .ref w_output, .ref w_reader, .ref w_line, .ref w_deeds, .ref w_machine, .int 0, .int 0, .int 0, .int 0])), (w_line, .inr (8, [.ref w_heap, .int 0, .int 0, .int 0, .int 0, .int 0, .int 0, .int 0, .ref l_kind, .ref l_list, .ref l_next, .ref l_turns, .ref l_limit, .ref l_other, .ref l_mark, .ref l_waits, .ref l_values, .ref l_locals])), (w_reader, .inr (7, [.ref w_heap, .ref w_procedures, .ref r_tape, .int 0, .int 0, .int 0, .int 0, .ref r_members, .int 0, .ref r_opened, .int 0, .int 0, .int 1, .int 0, .ref r_newNames, .ref r_newInputs, .ref r_newBodies, .int 0, .int 0])), (w_heap, .inr (1, [.ref e_lexicon, .int ((m_Heap_newWord_r 1)), .int ((m_Heap_newWord_r 7)), .int ((m_Heap_newWord_r 14)), .int 21, .ref e_cells, .ref e_spare, .int 21, .int 0, .ref e_leftLists, .ref e_rightLists, .ref e_nextMembers]))] := hD
    refine lv_if_ne (tgt := 34) hx hb d_World_define_22 (by decide) (fun c_2 => ?_) (fun c_2 => ?_)
    · refine lv_aload_n hx hb d_World_define_34 rfl (lv_at hl 0 rfl) ?_
      refine va_get (D := (dC, dI)) (ci := 0) (v := .ref w_reader) (C := R_World) (T := F_World) (N := 13) hx hb htt iw_World hown hK hP 0 rfl rfl 5 (by decide) (htt _ lk_World_56) (fun _ h9 => h9) rfl d_World_define_35 ?_
      have hPc := hP.sub (ws' := [(w_reader, .inr (7, [.ref w_heap, .ref w_procedures, .ref r_tape, .int 0, .int 0, .int 0, .int 0, .ref r_members, .int 0, .ref r_opened, .int 0, .int 0, .int 1, .int 0, .ref r_newNames, .ref r_newInputs, .ref r_newBodies, .int 0, .int 0]))]) [2] rfl
      have hDc := hD.sub (ws' := [(w_reader, .inr (7, [.ref w_heap, .ref w_procedures, .ref r_tape, .int 0, .int 0, .int 0, .int 0, .ref r_members, .int 0, .ref r_opened, .int 0, .int 0, .int 1, .int 0, .ref r_newNames, .ref r_newInputs, .ref r_newBodies, .int 0, .int 0]))]) [2] (by decide) rfl
      have hKc := hK.sub (tys' := [(cI, .int)]) [0] rfl
      have hFc := va_free (wc := [(w_reader, .inr (7, [.ref w_heap, .ref w_procedures, .ref r_tape, .int 0, .int 0, .int 0, .int 0, .ref r_members, .int 0, .ref r_opened, .int 0, .int 0, .int 1, .int 0, .ref r_newNames, .ref r_newInputs, .ref r_newBodies, .int 0, .int 0]))]) hD hS hA [2] rfl
      refine va_calli (va_runV (As := []) (rest := []) ⟨hx, hb, hml, hown, hts⟩ (c_Reader_tellAll_c1 l dC dI H.size w_reader w_heap w_procedures r_tape r_members r_opened r_newNames r_newInputs r_newBodies cI) (cwV 0 hts (tw_GV tw_cons cw_Reader_tellAll lk_World_111 in_Reader_tellAll sel_Reader_tellAll ini_Reader) rfl rfl rfl (by decide +kernel) ⟨Nat.le_of_ble_eq_true rfl, Nat.le_of_ble_eq_true rfl⟩) ⟨fun a U g mk q => by obtain ⟨q0, q1, qP, qK, qD⟩ := q; exact ⟨q0, q1, qP, va_K.moved (u := U) (U := U.calling g mk a) (Vm.Alike.refl U.vm) qK, qD⟩, va_recv hKc hPc (ci := 7) (q0 := 0) rfl rfl, fun U hU hW => ⟨rfl, by rw [hU], by rw [hU]; exact hPc, va_K.moved hW.alike hKc, hDc.weaken (fun _ _ _ _ => trivial)⟩⟩ rfl rfl hl.1 rfl (lv_room (Nat.le_of_ble_eq_true rfl)) d_World_define_38 ⟨Nat.le_of_ble_eq_true rfl, Nat.le_of_ble_eq_true rfl⟩) hS (fun q _ h => hFc q h) hFc (fun r9 u9 t9 H1 locs ht hvm e9 hB hz1 hk1 hS => ?_)
      obtain ⟨hP1, hK1, hD1⟩ := hB
      rw [ht] at hP1
      obtain ⟨hP, hD⟩ := va_join (wr := [(hw, .inr (0, [.ref w_heap, .ref w_names, .ref w_procedures, .ref w_turtles, .ref w_output, .ref w_reader, .ref w_line, .ref w_deeds, .ref w_machine, .int 0, .int 0, .int 0, .int 0])), (w_line, .inr (8, [.ref w_heap, .int 0, .int 0, .int 0, .int 0, .int 0, .int 0, .int 0, .ref l_kind, .ref l_list, .ref l_next, .ref l_turns, .ref l_limit, .ref l_other, .ref l_mark, .ref l_waits, .ref l_values, .ref l_locals])), (w_heap, .inr (1, [.ref e_lexicon, .int ((m_Heap_newWord_r 1)), .int ((m_Heap_newWord_r 7)), .int ((m_Heap_newWord_r 14)), .int 21, .ref e_cells, .ref e_spare, .int 21, .int 0, .ref e_leftLists, .ref e_rightLists, .ref e_nextMembers]))]) (w1 := [(w_reader, .inr (7, [.ref w_heap, .ref w_procedures, .ref r_tape, .int 0, .int 0, .int 0, .int 0, .ref r_members, .int 0, .ref r_opened, .int 0, .int 0, .int 1, .int 0, .ref r_newNames, .ref r_newInputs, .ref r_newBodies, .int 0, .int 0]))]) hP hD [2] [0, 1, 3] rfl rfl (by decide) (by decide) hk1 hFc hP1 hD1
      subst e9
      clear hP1 hD1 hK1 hvm hz1 hk1 hFc hKc hDc hPc
      subst ht
      generalize t9.heap = H at hP hS ⊢
      have hP : va_P (dC, dI) classes [(hw, .inr (0, [.ref w_heap, .ref w_names, .ref w_procedures, .ref w_turtles, .ref w_output, .ref w_reader, .ref w_line, .ref w_deeds, .ref w_machine, .int 0, .int 0, .int 0, .int 0])), (w_line, .inr (8, [.ref w_heap, .int 0, .int 0, .int 0, .int 0, .int 0, .int 0, .int 0, .ref l_kind, .ref l_list, .ref l_next, .ref l_turns, .ref l_limit, .ref l_other, .ref l_mark, .ref l_waits, .ref l_values, .ref l_locals])), (w_heap, .inr (1, [.ref e_lexicon, .int ((m_Heap_newWord_r 1)), .int ((m_Heap_newWord_r 7)), .int ((m_Heap_newWord_r 14)), .int 21, .ref e_cells, .ref e_spare, .int 21, .int 0, .ref e_leftLists, .ref e_rightLists, .ref e_nextMembers])), (w_reader, .inr (7, [.ref w_heap, .ref w_procedures, .ref r_tape, .int 0, .int 0, .int 0, .int 0, .ref r_members, .int 0, .ref r_opened, .int 0, .int 0, .int 1, .int 0, .ref r_newNames, .ref r_newInputs, .ref r_newBodies, .int 0, .int 0]))] H := hP
      have hD : va_D A [(hw, .inr (0, [.ref w_heap, .ref w_names, .ref w_procedures, .ref w_turtles, .ref w_output, .ref w_reader, .ref w_line, .ref w_deeds, .ref w_machine, .int 0, .int 0, .int 0, .int 0])), (w_line, .inr (8, [.ref w_heap, .int 0, .int 0, .int 0, .int 0, .int 0, .int 0, .int 0, .ref l_kind, .ref l_list, .ref l_next, .ref l_turns, .ref l_limit, .ref l_other, .ref l_mark, .ref l_waits, .ref l_values, .ref l_locals])), (w_heap, .inr (1, [.ref e_lexicon, .int ((m_Heap_newWord_r 1)), .int ((m_Heap_newWord_r 7)), .int ((m_Heap_newWord_r 14)), .int 21, .ref e_cells, .ref e_spare, .int 21, .int 0, .ref e_leftLists, .ref e_rightLists, .ref e_nextMembers])), (w_reader, .inr (7, [.ref w_heap, .ref w_procedures, .ref r_tape, .int 0, .int 0, .int 0, .int 0, .ref r_members, .int 0, .ref r_opened, .int 0, .int 0, .int 1, .int 0, .ref r_newNames, .ref r_newInputs, .ref r_newBodies, .int 0, .int 0]))] := hD
      refine lv_istore_n (lv' := [(1, .int 0), (0, .ref hw)]) hx hb d_World_define_41 rfl hl (by decide) rfl (fun ls hl => ?_)
      refine lv_iload_n hx hb d_World_define_42 rfl (lv_at hl 0 rfl) ?_
      refine lv_if_le (tgt := 51) hx hb d_World_define_43 (by decide) (fun c_3 => ?_) (fun c_3 => ?_)
      · refine lv_iload_n hx hb d_World_define_51 rfl (lv_at hl 0 rfl) ?_
        have hP9 := hP.sub (ws' := [(hw, .inr (0, [.ref w_heap, .ref w_names, .ref w_procedures, .ref w_turtles, .ref w_output, .ref w_reader, .ref w_line, .ref w_deeds, .ref w_machine, .int 0, .int 0, .int 0, .int 0])), (w_line, .inr (8, [.ref w_heap, .int 0, .int 0, .int 0, .int 0, .int 0, .int 0, .int 0, .ref l_kind, .ref l_list, .ref l_next, .ref l_turns, .ref l_limit, .ref l_other, .ref l_mark, .ref l_waits, .ref l_values, .ref l_locals])), (w_reader, .inr (7, [.ref w_heap, .ref w_procedures, .ref r_tape, .int 0, .int 0, .int 0, .int 0, .ref r_members, .int 0, .ref r_opened, .int 0, .int 0, .int 1, .int 0, .ref r_newNames, .ref r_newInputs, .ref r_newBodies, .int 0, .int 0])), (w_heap, .inr (1, [.ref e_lexicon, .int ((m_Heap_newWord_r 1)), .int ((m_Heap_newWord_r 7)), .int ((m_Heap_newWord_r 14)), .int 21, .ref e_cells, .ref e_spare, .int 21, .int 0, .ref e_leftLists, .ref e_rightLists, .ref e_nextMembers]))]) [0, 1, 3, 2] rfl
        have hD9 := hD.sub (ws' := [(hw, .inr (0, [.ref w_heap, .ref w_names, .ref w_procedures, .ref w_turtles, .ref w_output, .ref w_reader, .ref w_line, .ref w_deeds, .ref w_machine, .int 0, .int 0, .int 0, .int 0])), (w_line, .inr (8, [.ref w_heap, .int 0, .int 0, .int 0, .int 0, .int 0, .int 0, .int 0, .ref l_kind, .ref l_list, .ref l_next, .ref l_turns, .ref l_limit, .ref l_other, .ref l_mark, .ref l_waits, .ref l_values, .ref l_locals])), (w_reader, .inr (7, [.ref w_heap, .ref w_procedures, .ref r_tape, .int 0, .int 0, .int 0, .int 0, .ref r_members, .int 0, .ref r_opened, .int 0, .int 0, .int 1, .int 0, .ref r_newNames, .ref r_newInputs, .ref r_newBodies, .int 0, .int 0])), (w_heap, .inr (1, [.ref e_lexicon, .int ((m_Heap_newWord_r 1)), .int ((m_Heap_newWord_r 7)), .int ((m_Heap_newWord_r 14)), .int 21, .ref e_cells, .ref e_spare, .int 21, .int 0, .ref e_leftLists, .ref e_rightLists, .ref e_nextMembers]))]) [0, 1, 3, 2] (by decide) rfl
        exact W.iret (v := 0) hx hb hr (fun t9 ht hW => ⟨⟨0, (), rfl, rfl, by rw [ht]; exact hP9, va_K.moved hW.alike hK, hD9⟩, hS.F ht⟩) hS.2.2 d_World_define_52
      · exact absurd c_3 (by decide)
    · exact absurd c_2 (by decide)
  · exact absurd c_1 (by decide)
