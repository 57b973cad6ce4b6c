theorem d_Reader_begin_0 : decode b_Reader_begin 0 = .ok (.aload_n 0, 1) := by decide +kernel
theorem d_Reader_begin_1 : decode b_Reader_begin 1 = .ok (.iload_n 1, 1) := by decide +kernel
theorem d_Reader_begin_2 : decode b_Reader_begin 2 = .ok (.putfield 68, 3) := by decide +kernel
theorem d_Reader_begin_5 : decode b_Reader_begin 5 = .ok (.aload_n 0, 1) := by decide +kernel
theorem d_Reader_begin_6 : decode b_Reader_begin 6 = .ok (.aload_n 0, 1) := by decide +kernel
theorem d_Reader_begin_7 : decode b_Reader_begin 7 = .ok (.getfield 68, 3) := by decide +kernel
theorem d_Reader_begin_10 : decode b_Reader_begin 10 = .ok (.ifCond .eq 7, 3) := by decide +kernel
theorem d_Reader_begin_13 : decode b_Reader_begin 13 = .ok (.iconst 0, 1) := by decide +kernel
theorem d_Reader_begin_14 : decode b_Reader_begin 14 = .ok (.goto 4, 3) := by decide +kernel
theorem d_Reader_begin_17 : decode b_Reader_begin 17 = .ok (.iconst 3, 1) := by decide +kernel
theorem d_Reader_begin_18 : decode b_Reader_begin 18 = .ok (.putfield 72, 3) := by decide +kernel
theorem d_Reader_begin_21 : decode b_Reader_begin 21 = .ok (.aload_n 0, 1) := by decide +kernel
theorem d_Reader_begin_22 : decode b_Reader_begin 22 = .ok (.iconst 0, 1) := by decide +kernel
theorem d_Reader_begin_23 : decode b_Reader_begin 23 = .ok (.putfield 51, 3) := by decide +kernel
theorem d_Reader_begin_26 : decode b_Reader_begin 26 = .ok (.aload_n 0, 1) := by decide +kernel
theorem d_Reader_begin_27 : decode b_Reader_begin 27 = .ok (.iconst 0, 1) := by decide +kernel
theorem d_Reader_begin_28 : decode b_Reader_begin 28 = .ok (.putfield 75, 3) := by decide +kernel
theorem d_Reader_begin_31 : decode b_Reader_begin 31 = .ok (.aload_n 0, 1) := by decide +kernel
theorem d_Reader_begin_32 : decode b_Reader_begin 32 = .ok (.iconst 0, 1) := by decide +kernel
theorem d_Reader_begin_33 : decode b_Reader_begin 33 = .ok (.putfield 78, 3) := by decide +kernel
theorem d_Reader_begin_36 : decode b_Reader_begin 36 = .ok (.aload_n 0, 1) := by decide +kernel
theorem d_Reader_begin_37 : decode b_Reader_begin 37 = .ok (.iconst 0, 1) := by decide +kernel
theorem d_Reader_begin_38 : decode b_Reader_begin 38 = .ok (.putfield 81, 3) := by decide +kernel
theorem d_Reader_begin_41 : decode b_Reader_begin 41 = .ok (.aload_n 0, 1) := by decide +kernel
theorem d_Reader_begin_42 : decode b_Reader_begin 42 = .ok (.iconst 0, 1) := by decide +kernel
theorem d_Reader_begin_43 : decode b_Reader_begin 43 = .ok (.putfield 84, 3) := by decide +kernel
theorem d_Reader_begin_46 : decode b_Reader_begin 46 = .ok (.aload_n 0, 1) := by decide +kernel
theorem d_Reader_begin_47 : decode b_Reader_begin 47 = .ok (.iconst 0, 1) := by decide +kernel
theorem d_Reader_begin_48 : decode b_Reader_begin 48 = .ok (.putfield 87, 3) := by decide +kernel
theorem d_Reader_begin_51 : decode b_Reader_begin 51 = .ok (.return_, 1) := by decide +kernel
theorem lk_Reader_68 : Cond.fieldLink "TurtleWorld$Reader" 68 "TurtleWorld$Reader" "defining" "Z" ∈ tw_T := tw_i2 179 (by decide +kernel) (by decide +kernel)
theorem lk_Reader_72 : Cond.fieldLink "TurtleWorld$Reader" 72 "TurtleWorld$Reader" "stage" "I" ∈ tw_T := tw_i2 180 (by decide +kernel) (by decide +kernel)
theorem lk_Reader_51 : Cond.fieldLink "TurtleWorld$Reader" 51 "TurtleWorld$Reader" "faultKind" "I" ∈ tw_T := tw_i2 171 (by decide +kernel) (by decide +kernel)
theorem lk_Reader_75 : Cond.fieldLink "TurtleWorld$Reader" 75 "TurtleWorld$Reader" "height" "I" ∈ tw_T := tw_i2 175 (by decide +kernel) (by decide +kernel)
theorem lk_Reader_78 : Cond.fieldLink "TurtleWorld$Reader" 78 "TurtleWorld$Reader" "depth" "I" ∈ tw_T := tw_i2 177 (by decide +kernel) (by decide +kernel)
theorem lk_Reader_81 : Cond.fieldLink "TurtleWorld$Reader" 81 "TurtleWorld$Reader" "tokens" "I" ∈ tw_T := tw_i2 178 (by decide +kernel) (by decide +kernel)
theorem lk_Reader_84 : Cond.fieldLink "TurtleWorld$Reader" 84 "TurtleWorld$Reader" "told" "I" ∈ tw_T := tw_i2 184 (by decide +kernel) (by decide +kernel)
theorem lk_Reader_87 : Cond.fieldLink "TurtleWorld$Reader" 87 "TurtleWorld$Reader" "fresh" "I" ∈ tw_T := tw_i2 185 (by decide +kernel) (by decide +kernel)
theorem d_Reader_readEnd_0 : decode b_Reader_readEnd 0 = .ok (.aload_n 0, 1) := by decide +kernel
theorem d_Reader_readEnd_1 : decode b_Reader_readEnd 1 = .ok (.getfield 78, 3) := by decide +kernel
theorem d_Reader_readEnd_4 : decode b_Reader_readEnd 4 = .ok (.ifCond .le 15, 3) := by decide +kernel
theorem d_Reader_readEnd_7 : decode b_Reader_readEnd 7 = .ok (.aload_n 0, 1) := by decide +kernel
theorem d_Reader_readEnd_8 : decode b_Reader_readEnd 8 = .ok (.iconst 4, 1) := by decide +kernel
theorem d_Reader_readEnd_9 : decode b_Reader_readEnd 9 = .ok (.aload_n 0, 1) := by decide +kernel
theorem d_Reader_readEnd_10 : decode b_Reader_readEnd 10 = .ok (.getfield 38, 3) := by decide +kernel
theorem d_Reader_readEnd_13 : decode b_Reader_readEnd 13 = .ok (.invokevirtual 54, 3) := by decide +kernel
theorem d_Reader_readEnd_16 : decode b_Reader_readEnd 16 = .ok (.goto 82, 3) := by decide +kernel
theorem d_Reader_readEnd_19 : decode b_Reader_readEnd 19 = .ok (.aload_n 0, 1) := by decide +kernel
theorem d_Reader_readEnd_20 : decode b_Reader_readEnd 20 = .ok (.getfield 68, 3) := by decide +kernel
theorem d_Reader_readEnd_23 : decode b_Reader_readEnd 23 = .ok (.ifCond .ne 45, 3) := by decide +kernel
theorem d_Reader_readEnd_26 : decode b_Reader_readEnd 26 = .ok (.aload_n 0, 1) := by decide +kernel
theorem d_Reader_readEnd_27 : decode b_Reader_readEnd 27 = .ok (.aload_n 0, 1) := by decide +kernel
theorem d_Reader_readEnd_28 : decode b_Reader_readEnd 28 = .ok (.getfield 30, 3) := by decide +kernel
theorem d_Reader_readEnd_31 : decode b_Reader_readEnd 31 = .ok (.aload_n 0, 1) := by decide +kernel
theorem d_Reader_readEnd_32 : decode b_Reader_readEnd 32 = .ok (.getfield 15, 3) := by decide +kernel
theorem d_Reader_readEnd_35 : decode b_Reader_readEnd 35 = .ok (.iconst 0, 1) := by decide +kernel
theorem d_Reader_readEnd_36 : decode b_Reader_readEnd 36 = .ok (.aload_n 0, 1) := by decide +kernel
theorem d_Reader_readEnd_37 : decode b_Reader_readEnd 37 = .ok (.getfield 75, 3) := by decide +kernel
theorem d_Reader_readEnd_40 : decode b_Reader_readEnd 40 = .ok (.invokevirtual 123, 3) := by decide +kernel
theorem d_Reader_readEnd_43 : decode b_Reader_readEnd 43 = .ok (.putfield 174, 3) := by decide +kernel
theorem d_Reader_readEnd_46 : decode b_Reader_readEnd 46 = .ok (.aload_n 0, 1) := by decide +kernel
theorem d_Reader_readEnd_47 : decode b_Reader_readEnd 47 = .ok (.getfield 174, 3) := by decide +kernel
theorem d_Reader_readEnd_50 : decode b_Reader_readEnd 50 = .ok (.ldc 127, 2) := by decide +kernel
theorem d_Reader_readEnd_52 : decode b_Reader_readEnd 52 = .ok (.if_icmp .ne 46, 3) := by decide +kernel
theorem d_Reader_readEnd_55 : decode b_Reader_readEnd 55 = .ok (.aload_n 0, 1) := by decide +kernel
theorem d_Reader_readEnd_56 : decode b_Reader_readEnd 56 = .ok (.bipush 6, 2) := by decide +kernel
theorem d_Reader_readEnd_58 : decode b_Reader_readEnd 58 = .ok (.aload_n 0, 1) := by decide +kernel
theorem d_Reader_readEnd_59 : decode b_Reader_readEnd 59 = .ok (.getfield 38, 3) := by decide +kernel
theorem d_Reader_readEnd_62 : decode b_Reader_readEnd 62 = .ok (.invokevirtual 54, 3) := by decide +kernel
theorem d_Reader_readEnd_65 : decode b_Reader_readEnd 65 = .ok (.goto 33, 3) := by decide +kernel
theorem d_Reader_readEnd_68 : decode b_Reader_readEnd 68 = .ok (.aload_n 0, 1) := by decide +kernel
theorem d_Reader_readEnd_69 : decode b_Reader_readEnd 69 = .ok (.getfield 72, 3) := by decide +kernel
theorem d_Reader_readEnd_72 : decode b_Reader_readEnd 72 = .ok (.ifCond .eq 26, 3) := by decide +kernel
theorem d_Reader_readEnd_75 : decode b_Reader_readEnd 75 = .ok (.aload_n 0, 1) := by decide +kernel
theorem d_Reader_readEnd_76 : decode b_Reader_readEnd 76 = .ok (.aload_n 0, 1) := by decide +kernel
theorem d_Reader_readEnd_77 : decode b_Reader_readEnd 77 = .ok (.getfield 72, 3) := by decide +kernel
theorem d_Reader_readEnd_80 : decode b_Reader_readEnd 80 = .ok (.iconst 1, 1) := by decide +kernel
theorem d_Reader_readEnd_81 : decode b_Reader_readEnd 81 = .ok (.if_icmp .ne 8, 3) := by decide +kernel
theorem d_Reader_readEnd_84 : decode b_Reader_readEnd 84 = .ok (.bipush 8, 2) := by decide +kernel
theorem d_Reader_readEnd_86 : decode b_Reader_readEnd 86 = .ok (.goto 5, 3) := by decide +kernel
theorem d_Reader_readEnd_89 : decode b_Reader_readEnd 89 = .ok (.bipush 10, 2) := by decide +kernel
theorem d_Reader_readEnd_91 : decode b_Reader_readEnd 91 = .ok (.aload_n 0, 1) := by decide +kernel
theorem d_Reader_readEnd_92 : decode b_Reader_readEnd 92 = .ok (.getfield 38, 3) := by decide +kernel
theorem d_Reader_readEnd_95 : decode b_Reader_readEnd 95 = .ok (.invokevirtual 54, 3) := by decide +kernel
theorem d_Reader_readEnd_98 : decode b_Reader_readEnd 98 = .ok (.return_, 1) := by decide +kernel
theorem d_Reader_read_0 : decode b_Reader_read 0 = .ok (.aload_n 0, 1) := by decide +kernel
theorem d_Reader_read_1 : decode b_Reader_read 1 = .ok (.getfield 30, 3) := by decide +kernel
theorem d_Reader_read_4 : decode b_Reader_read 4 = .ok (.getfield 42, 3) := by decide +kernel
theorem d_Reader_read_7 : decode b_Reader_read 7 = .ok (.istore_n 2, 1) := by decide +kernel
theorem d_Reader_read_8 : decode b_Reader_read 8 = .ok (.aload_n 0, 1) := by decide +kernel
theorem d_Reader_read_9 : decode b_Reader_read 9 = .ok (.iload_n 1, 1) := by decide +kernel
theorem d_Reader_read_10 : decode b_Reader_read 10 = .ok (.invokevirtual 47, 3) := by decide +kernel
theorem d_Reader_read_13 : decode b_Reader_read 13 = .ok (.iconst 0, 1) := by decide +kernel
theorem d_Reader_read_14 : decode b_Reader_read 14 = .ok (.istore_n 3, 1) := by decide +kernel
theorem d_Reader_read_15 : decode b_Reader_read 15 = .ok (.iconst 0, 1) := by decide +kernel
theorem d_Reader_read_16 : decode b_Reader_read 16 = .ok (.istore 4, 2) := by decide +kernel
theorem d_Reader_read_18 : decode b_Reader_read 18 = .ok (.iconst 0, 1) := by decide +kernel
theorem d_Reader_read_19 : decode b_Reader_read 19 = .ok (.istore 5, 2) := by decide +kernel
theorem d_Reader_read_21 : decode b_Reader_read 21 = .ok (.iload 5, 2) := by decide +kernel
theorem d_Reader_read_23 : decode b_Reader_read 23 = .ok (.sipush 4000, 3) := by decide +kernel
theorem d_Reader_read_26 : decode b_Reader_read 26 = .ok (.if_icmp .ge 132, 3) := by decide +kernel
theorem d_Reader_read_29 : decode b_Reader_read 29 = .ok (.iload 4, 2) := by decide +kernel
theorem d_Reader_read_31 : decode b_Reader_read 31 = .ok (.aload_n 0, 1) := by decide +kernel
theorem d_Reader_read_32 : decode b_Reader_read 32 = .ok (.getfield 38, 3) := by decide +kernel
theorem d_Reader_read_35 : decode b_Reader_read 35 = .ok (.if_icmp .ge 123, 3) := by decide +kernel
theorem d_Reader_read_38 : decode b_Reader_read 38 = .ok (.aload_n 0, 1) := by decide +kernel
theorem d_Reader_read_39 : decode b_Reader_read 39 = .ok (.getfield 51, 3) := by decide +kernel
theorem d_Reader_read_42 : decode b_Reader_read 42 = .ok (.ifCond .ne 116, 3) := by decide +kernel
theorem d_Reader_read_45 : decode b_Reader_read 45 = .ok (.aload_n 0, 1) := by decide +kernel
theorem d_Reader_read_46 : decode b_Reader_read 46 = .ok (.getfield 11, 3) := by decide +kernel
theorem d_Reader_read_49 : decode b_Reader_read 49 = .ok (.iload 4, 2) := by decide +kernel
theorem d_Reader_read_51 : decode b_Reader_read 51 = .ok (.iaload, 1) := by decide +kernel
theorem d_Reader_read_52 : decode b_Reader_read 52 = .ok (.istore 6, 2) := by decide +kernel
theorem d_Reader_read_54 : decode b_Reader_read 54 = .ok (.iload 4, 2) := by decide +kernel
theorem d_Reader_read_56 : decode b_Reader_read 56 = .ok (.iconst 1, 1) := by decide +kernel
theorem d_Reader_read_57 : decode b_Reader_read 57 = .ok (.iadd, 1) := by decide +kernel
theorem d_Reader_read_58 : decode b_Reader_read 58 = .ok (.istore 7, 2) := by decide +kernel
theorem d_Reader_read_60 : decode b_Reader_read 60 = .ok (.iload 6, 2) := by decide +kernel
theorem d_Reader_read_62 : decode b_Reader_read 62 = .ok (.bipush 10, 2) := by decide +kernel
theorem d_Reader_read_64 : decode b_Reader_read 64 = .ok (.if_icmp .eq 27, 3) := by decide +kernel
theorem d_Reader_read_67 : decode b_Reader_read 67 = .ok (.iload 6, 2) := by decide +kernel
theorem d_Reader_read_69 : decode b_Reader_read 69 = .ok (.bipush 32, 2) := by decide +kernel
theorem d_Reader_read_71 : decode b_Reader_read 71 = .ok (.if_icmp .lt 10, 3) := by decide +kernel
theorem d_Reader_read_74 : decode b_Reader_read 74 = .ok (.iload 6, 2) := by decide +kernel
theorem d_Reader_read_76 : decode b_Reader_read 76 = .ok (.bipush 126, 2) := by decide +kernel
theorem d_Reader_read_78 : decode b_Reader_read 78 = .ok (.if_icmp .le 13, 3) := by decide +kernel
theorem d_Reader_read_81 : decode b_Reader_read 81 = .ok (.aload_n 0, 1) := by decide +kernel
theorem d_Reader_read_82 : decode b_Reader_read 82 = .ok (.iconst 1, 1) := by decide +kernel
theorem d_Reader_read_83 : decode b_Reader_read 83 = .ok (.iload 4, 2) := by decide +kernel
theorem d_Reader_read_85 : decode b_Reader_read 85 = .ok (.invokevirtual 54, 3) := by decide +kernel
theorem d_Reader_read_88 : decode b_Reader_read 88 = .ok (.goto 60, 3) := by decide +kernel
theorem d_Reader_read_91 : decode b_Reader_read 91 = .ok (.iload_n 3, 1) := by decide +kernel
theorem d_Reader_read_92 : decode b_Reader_read 92 = .ok (.ifCond .ne 10, 3) := by decide +kernel
theorem d_Reader_read_95 : decode b_Reader_read 95 = .ok (.iload 6, 2) := by decide +kernel
theorem d_Reader_read_97 : decode b_Reader_read 97 = .ok (.bipush 59, 2) := by decide +kernel
theorem d_Reader_read_99 : decode b_Reader_read 99 = .ok (.if_icmp .ne 19, 3) := by decide +kernel
theorem d_Reader_read_102 : decode b_Reader_read 102 = .ok (.iload 6, 2) := by decide +kernel
theorem d_Reader_read_104 : decode b_Reader_read 104 = .ok (.bipush 10, 2) := by decide +kernel
theorem d_Reader_read_106 : decode b_Reader_read 106 = .ok (.if_icmp .eq 7, 3) := by decide +kernel
theorem d_Reader_read_109 : decode b_Reader_read 109 = .ok (.iconst 1, 1) := by decide +kernel
theorem d_Reader_read_110 : decode b_Reader_read 110 = .ok (.goto 4, 3) := by decide +kernel
theorem d_Reader_read_113 : decode b_Reader_read 113 = .ok (.iconst 0, 1) := by decide +kernel
theorem d_Reader_read_114 : decode b_Reader_read 114 = .ok (.istore_n 3, 1) := by decide +kernel
theorem d_Reader_read_115 : decode b_Reader_read 115 = .ok (.goto 33, 3) := by decide +kernel
theorem d_Reader_read_118 : decode b_Reader_read 118 = .ok (.iload 6, 2) := by decide +kernel
theorem d_Reader_read_120 : decode b_Reader_read 120 = .ok (.bipush 10, 2) := by decide +kernel
theorem d_Reader_read_122 : decode b_Reader_read 122 = .ok (.if_icmp .eq 26, 3) := by decide +kernel
theorem d_Reader_read_125 : decode b_Reader_read 125 = .ok (.iload 6, 2) := by decide +kernel
theorem d_Reader_read_127 : decode b_Reader_read 127 = .ok (.bipush 32, 2) := by decide +kernel
theorem d_Reader_read_129 : decode b_Reader_read 129 = .ok (.if_icmp .eq 19, 3) := by decide +kernel
theorem d_Reader_read_132 : decode b_Reader_read 132 = .ok (.aload_n 0, 1) := by decide +kernel
theorem d_Reader_read_133 : decode b_Reader_read 133 = .ok (.iload 4, 2) := by decide +kernel
theorem d_Reader_read_135 : decode b_Reader_read 135 = .ok (.invokevirtual 58, 3) := by decide +kernel
theorem d_Reader_read_138 : decode b_Reader_read 138 = .ok (.istore 7, 2) := by decide +kernel
theorem d_Reader_read_140 : decode b_Reader_read 140 = .ok (.aload_n 0, 1) := by decide +kernel
theorem d_Reader_read_141 : decode b_Reader_read 141 = .ok (.iload 4, 2) := by decide +kernel
theorem d_Reader_read_143 : decode b_Reader_read 143 = .ok (.iload 7, 2) := by decide +kernel
theorem d_Reader_read_145 : decode b_Reader_read 145 = .ok (.invokevirtual 62, 3) := by decide +kernel
theorem d_Reader_read_148 : decode b_Reader_read 148 = .ok (.iload 7, 2) := by decide +kernel
theorem d_Reader_read_150 : decode b_Reader_read 150 = .ok (.istore 4, 2) := by decide +kernel
theorem d_Reader_read_152 : decode b_Reader_read 152 = .ok (.iinc 5 1, 3) := by decide +kernel
theorem d_Reader_read_155 : decode b_Reader_read 155 = .ok (.goto (-134), 3) := by decide +kernel
theorem d_Reader_read_158 : decode b_Reader_read 158 = .ok (.aload_n 0, 1) := by decide +kernel
theorem d_Reader_read_159 : decode b_Reader_read 159 = .ok (.invokevirtual 65, 3) := by decide +kernel
theorem d_Reader_read_162 : decode b_Reader_read 162 = .ok (.aload_n 0, 1) := by decide +kernel
theorem d_Reader_read_163 : decode b_Reader_read 163 = .ok (.getfield 51, 3) := by decide +kernel
theorem d_Reader_read_166 : decode b_Reader_read 166 = .ok (.ifCond .eq 11, 3) := by decide +kernel
theorem d_Reader_read_169 : decode b_Reader_read 169 = .ok (.aload_n 0, 1) := by decide +kernel
theorem d_Reader_read_170 : decode b_Reader_read 170 = .ok (.getfield 30, 3) := by decide +kernel
theorem d_Reader_read_173 : decode b_Reader_read 173 = .ok (.iload_n 2, 1) := by decide +kernel
theorem d_Reader_read_174 : decode b_Reader_read 174 = .ok (.putfield 42, 3) := by decide +kernel
theorem d_Reader_read_177 : decode b_Reader_read 177 = .ok (.aload_n 0, 1) := by decide +kernel
theorem d_Reader_read_178 : decode b_Reader_read 178 = .ok (.iconst 0, 1) := by decide +kernel
theorem d_Reader_read_179 : decode b_Reader_read 179 = .ok (.putfield 38, 3) := by decide +kernel
theorem d_Reader_read_182 : decode b_Reader_read 182 = .ok (.aload_n 0, 1) := by decide +kernel
theorem d_Reader_read_183 : decode b_Reader_read 183 = .ok (.getfield 51, 3) := by decide +kernel
theorem d_Reader_read_186 : decode b_Reader_read 186 = .ok (.ifCond .ne 7, 3) := by decide +kernel
theorem d_Reader_read_189 : decode b_Reader_read 189 = .ok (.iconst 1, 1) := by decide +kernel
theorem d_Reader_read_190 : decode b_Reader_read 190 = .ok (.goto 4, 3) := by decide +kernel
theorem d_Reader_read_193 : decode b_Reader_read 193 = .ok (.iconst 0, 1) := by decide +kernel
theorem d_Reader_read_194 : decode b_Reader_read 194 = .ok (.ireturn, 1) := by decide +kernel
theorem lk_Reader_42 : Cond.fieldLink "TurtleWorld$Reader" 42 "TurtleWorld$Heap" "top" "I" ∈ tw_T := tw_i1 211 (by decide +kernel) (by decide +kernel)
theorem lk_Reader_47 : Cond.methodLink "TurtleWorld$Reader" 47 ⟨"TurtleWorld$Reader", "begin", "(Z)V"⟩ ∈ tw_T := tw_i4 22 (by decide +kernel) (by decide +kernel)
theorem in_Reader_begin : Cond.instanceMethod ⟨"TurtleWorld$Reader", "begin", "(Z)V"⟩ ∈ tw_T := tw_i4 24 (by decide +kernel) (by decide +kernel)
theorem sel_Reader_begin : Cond.selects "TurtleWorld$Reader" ⟨"TurtleWorld$Reader", "begin", "(Z)V"⟩ ⟨"TurtleWorld$Reader", "begin", "(Z)V"⟩ ∈ tw_T := tw_inS 8 (by decide +kernel) (by decide +kernel)
theorem lk_Reader_65 : Cond.methodLink "TurtleWorld$Reader" 65 ⟨"TurtleWorld$Reader", "readEnd", "()V"⟩ ∈ tw_T := tw_i4 145 (by decide +kernel) (by decide +kernel)
theorem in_Reader_readEnd : Cond.instanceMethod ⟨"TurtleWorld$Reader", "readEnd", "()V"⟩ ∈ tw_T := tw_i4 147 (by decide +kernel) (by decide +kernel)
theorem sel_Reader_readEnd : Cond.selects "TurtleWorld$Reader" ⟨"TurtleWorld$Reader", "readEnd", "()V"⟩ ⟨"TurtleWorld$Reader", "readEnd", "()V"⟩ ∈ tw_T := tw_inS 24 (by decide +kernel) (by decide +kernel)
theorem d_Reader_tellAll_0 : decode b_Reader_tellAll 0 = .ok (.iconst 0, 1) := by decide +kernel
theorem d_Reader_tellAll_1 : decode b_Reader_tellAll 1 = .ok (.istore_n 1, 1) := by decide +kernel
theorem d_Reader_tellAll_2 : decode b_Reader_tellAll 2 = .ok (.iload_n 1, 1) := by decide +kernel
theorem d_Reader_tellAll_3 : decode b_Reader_tellAll 3 = .ok (.aload_n 0, 1) := by decide +kernel
theorem d_Reader_tellAll_4 : decode b_Reader_tellAll 4 = .ok (.getfield 84, 3) := by decide +kernel
theorem d_Reader_tellAll_7 : decode b_Reader_tellAll 7 = .ok (.if_icmp .ge 35, 3) := by decide +kernel
theorem d_Reader_tellAll_10 : decode b_Reader_tellAll 10 = .ok (.aload_n 0, 1) := by decide +kernel
theorem d_Reader_tellAll_11 : decode b_Reader_tellAll 11 = .ok (.getfield 34, 3) := by decide +kernel
theorem d_Reader_tellAll_14 : decode b_Reader_tellAll 14 = .ok (.aload_n 0, 1) := by decide +kernel
theorem d_Reader_tellAll_15 : decode b_Reader_tellAll 15 = .ok (.getfield 21, 3) := by decide +kernel
theorem d_Reader_tellAll_18 : decode b_Reader_tellAll 18 = .ok (.iload_n 1, 1) := by decide +kernel
theorem d_Reader_tellAll_19 : decode b_Reader_tellAll 19 = .ok (.iaload, 1) := by decide +kernel
theorem d_Reader_tellAll_20 : decode b_Reader_tellAll 20 = .ok (.aload_n 0, 1) := by decide +kernel
theorem d_Reader_tellAll_21 : decode b_Reader_tellAll 21 = .ok (.getfield 24, 3) := by decide +kernel
theorem d_Reader_tellAll_24 : decode b_Reader_tellAll 24 = .ok (.iload_n 1, 1) := by decide +kernel
theorem d_Reader_tellAll_25 : decode b_Reader_tellAll 25 = .ok (.iaload, 1) := by decide +kernel
theorem d_Reader_tellAll_26 : decode b_Reader_tellAll 26 = .ok (.aload_n 0, 1) := by decide +kernel
theorem d_Reader_tellAll_27 : decode b_Reader_tellAll 27 = .ok (.getfield 27, 3) := by decide +kernel
theorem d_Reader_tellAll_30 : decode b_Reader_tellAll 30 = .ok (.iload_n 1, 1) := by decide +kernel
theorem d_Reader_tellAll_31 : decode b_Reader_tellAll 31 = .ok (.iaload, 1) := by decide +kernel
theorem d_Reader_tellAll_32 : decode b_Reader_tellAll 32 = .ok (.invokevirtual 177, 3) := by decide +kernel
theorem d_Reader_tellAll_35 : decode b_Reader_tellAll 35 = .ok (.pop, 1) := by decide +kernel
theorem d_Reader_tellAll_36 : decode b_Reader_tellAll 36 = .ok (.iinc 1 1, 3) := by decide +kernel
theorem d_Reader_tellAll_39 : decode b_Reader_tellAll 39 = .ok (.goto (-37), 3) := by decide +kernel
theorem d_Reader_tellAll_42 : decode b_Reader_tellAll 42 = .ok (.aload_n 0, 1) := by decide +kernel
theorem d_Reader_tellAll_43 : decode b_Reader_tellAll 43 = .ok (.getfield 84, 3) := by decide +kernel
theorem d_Reader_tellAll_46 : decode b_Reader_tellAll 46 = .ok (.ireturn, 1) := by decide +kernel
theorem d_World_define_0 : decode b_World_define 0 = .ok (.aload_n 0, 1) := by decide +kernel
theorem d_World_define_1 : decode b_World_define 1 = .ok (.getfield 63, 3) := by decide +kernel
theorem d_World_define_4 : decode b_World_define 4 = .ok (.getfield 100, 3) := by decide +kernel
theorem d_World_define_7 : decode b_World_define 7 = .ok (.iconst 1, 1) := by decide +kernel
theorem d_World_define_8 : decode b_World_define 8 = .ok (.if_icmp .ne 6, 3) := by decide +kernel
theorem d_World_define_11 : decode b_World_define 11 = .ok (.bipush (-20), 2) := by decide +kernel
theorem d_World_define_13 : decode b_World_define 13 = .ok (.ireturn, 1) := by decide +kernel
theorem d_World_define_14 : decode b_World_define 14 = .ok (.aload_n 0, 1) := by decide +kernel
theorem d_World_define_15 : decode b_World_define 15 = .ok (.getfield 56, 3) := by decide +kernel
theorem d_World_define_18 : decode b_World_define 18 = .ok (.iconst 1, 1) := by decide +kernel
theorem d_World_define_19 : decode b_World_define 19 = .ok (.invokevirtual 104, 3) := by decide +kernel
theorem d_World_define_22 : decode b_World_define 22 = .ok (.ifCond .ne 12, 3) := by decide +kernel
theorem d_World_define_25 : decode b_World_define 25 = .ok (.aload_n 0, 1) := by decide +kernel
theorem d_World_define_26 : decode b_World_define 26 = .ok (.getfield 56, 3) := by decide +kernel
theorem d_World_define_29 : decode b_World_define 29 = .ok (.getfield 108, 3) := by decide +kernel
theorem d_World_define_32 : decode b_World_define 32 = .ok (.ineg, 1) := by decide +kernel
theorem d_World_define_33 : decode b_World_define 33 = .ok (.ireturn, 1) := by decide +kernel
theorem d_World_define_34 : decode b_World_define 34 = .ok (.aload_n 0, 1) := by decide +kernel
theorem d_World_define_35 : decode b_World_define 35 = .ok (.getfield 56, 3) := by decide +kernel
theorem d_World_define_38 : decode b_World_define 38 = .ok (.invokevirtual 111, 3) := by decide +kernel
theorem d_World_define_41 : decode b_World_define 41 = .ok (.istore_n 1, 1) := by decide +kernel
theorem d_World_define_42 : decode b_World_define 42 = .ok (.iload_n 1, 1) := by decide +kernel
theorem d_World_define_43 : decode b_World_define 43 = .ok (.ifCond .le 8, 3) := by decide +kernel
theorem d_World_define_46 : decode b_World_define 46 = .ok (.aload_n 0, 1) := by decide +kernel
theorem d_World_define_47 : decode b_World_define 47 = .ok (.iconst 0, 1) := by decide +kernel
theorem d_World_define_48 : decode b_World_define 48 = .ok (.putfield 115, 3) := by decide +kernel
theorem d_World_define_51 : decode b_World_define 51 = .ok (.iload_n 1, 1) := by decide +kernel
theorem d_World_define_52 : decode b_World_define 52 = .ok (.ireturn, 1) := by decide +kernel
theorem lk_World_104 : Cond.methodLink "TurtleWorld" 104 ⟨"TurtleWorld$Reader", "read", "(Z)Z"⟩ ∈ tw_T := tw_i4 18 (by decide +kernel) (by decide +kernel)
theorem in_Reader_read : Cond.instanceMethod ⟨"TurtleWorld$Reader", "read", "(Z)Z"⟩ ∈ tw_T := tw_i4 19 (by decide +kernel) (by decide +kernel)
theorem sel_Reader_read : Cond.selects "TurtleWorld$Reader" ⟨"TurtleWorld$Reader", "read", "(Z)Z"⟩ ⟨"TurtleWorld$Reader", "read", "(Z)Z"⟩ ∈ tw_T := tw_i4 20 (by decide +kernel) (by decide +kernel)
theorem lk_World_111 : Cond.methodLink "TurtleWorld" 111 ⟨"TurtleWorld$Reader", "tellAll", "()I"⟩ ∈ tw_T := tw_i4 149 (by decide +kernel) (by decide +kernel)
theorem in_Reader_tellAll : Cond.instanceMethod ⟨"TurtleWorld$Reader", "tellAll", "()I"⟩ ∈ tw_T := tw_i4 150 (by decide +kernel) (by decide +kernel)
theorem sel_Reader_tellAll : Cond.selects "TurtleWorld$Reader" ⟨"TurtleWorld$Reader", "tellAll", "()I"⟩ ⟨"TurtleWorld$Reader", "tellAll", "()I"⟩ ∈ tw_T := tw_i4 151 (by decide +kernel) (by decide +kernel)
