theorem d_Reader_takeName_0 : decode b_Reader_takeName 0 = .ok (.iload_n 1, 1) := by decide +kernel
theorem d_Reader_takeName_1 : decode b_Reader_takeName 1 = .ok (.invokestatic 138, 3) := by decide +kernel
theorem d_Reader_takeName_4 : decode b_Reader_takeName 4 = .ok (.ifCond .eq 14, 3) := by decide +kernel
theorem d_Reader_takeName_7 : decode b_Reader_takeName 7 = .ok (.aload_n 0, 1) := by decide +kernel
theorem d_Reader_takeName_8 : decode b_Reader_takeName 8 = .ok (.getfield 30, 3) := by decide +kernel
theorem d_Reader_takeName_11 : decode b_Reader_takeName 11 = .ok (.iload_n 1, 1) := by decide +kernel
theorem d_Reader_takeName_12 : decode b_Reader_takeName 12 = .ok (.invokevirtual 141, 3) := by decide +kernel
theorem d_Reader_takeName_15 : decode b_Reader_takeName 15 = .ok (.ifCond .eq 11, 3) := by decide +kernel
theorem d_Reader_takeName_18 : decode b_Reader_takeName 18 = .ok (.aload_n 0, 1) := by decide +kernel
theorem d_Reader_takeName_19 : decode b_Reader_takeName 19 = .ok (.bipush 8, 2) := by decide +kernel
theorem d_Reader_takeName_21 : decode b_Reader_takeName 21 = .ok (.iload_n 2, 1) := by decide +kernel
theorem d_Reader_takeName_22 : decode b_Reader_takeName 22 = .ok (.invokevirtual 54, 3) := by decide +kernel
theorem d_Reader_takeName_25 : decode b_Reader_takeName 25 = .ok (.return_, 1) := by decide +kernel
theorem d_Reader_takeName_26 : decode b_Reader_takeName 26 = .ok (.aload_n 0, 1) := by decide +kernel
theorem d_Reader_takeName_27 : decode b_Reader_takeName 27 = .ok (.iload_n 1, 1) := by decide +kernel
theorem d_Reader_takeName_28 : decode b_Reader_takeName 28 = .ok (.invokevirtual 156, 3) := by decide +kernel
theorem d_Reader_takeName_31 : decode b_Reader_takeName 31 = .ok (.ifCond .eq 13, 3) := by decide +kernel
theorem d_Reader_takeName_34 : decode b_Reader_takeName 34 = .ok (.aload_n 0, 1) := by decide +kernel
theorem d_Reader_takeName_35 : decode b_Reader_takeName 35 = .ok (.dup, 1) := by decide +kernel
theorem d_Reader_takeName_36 : decode b_Reader_takeName 36 = .ok (.getfield 87, 3) := by decide +kernel
theorem d_Reader_takeName_39 : decode b_Reader_takeName 39 = .ok (.iconst 1, 1) := by decide +kernel
theorem d_Reader_takeName_40 : decode b_Reader_takeName 40 = .ok (.iadd, 1) := by decide +kernel
theorem d_Reader_takeName_41 : decode b_Reader_takeName 41 = .ok (.putfield 87, 3) := by decide +kernel
theorem d_Reader_takeName_44 : decode b_Reader_takeName 44 = .ok (.aload_n 0, 1) := by decide +kernel
theorem d_Reader_takeName_45 : decode b_Reader_takeName 45 = .ok (.getfield 34, 3) := by decide +kernel
theorem d_Reader_takeName_48 : decode b_Reader_takeName 48 = .ok (.getfield 159, 3) := by decide +kernel
theorem d_Reader_takeName_51 : decode b_Reader_takeName 51 = .ok (.aload_n 0, 1) := by decide +kernel
theorem d_Reader_takeName_52 : decode b_Reader_takeName 52 = .ok (.getfield 87, 3) := by decide +kernel
theorem d_Reader_takeName_55 : decode b_Reader_takeName 55 = .ok (.iadd, 1) := by decide +kernel
theorem d_Reader_takeName_56 : decode b_Reader_takeName 56 = .ok (.bipush 40, 2) := by decide +kernel
theorem d_Reader_takeName_58 : decode b_Reader_takeName 58 = .ok (.if_icmp .le 13, 3) := by decide +kernel
theorem d_Reader_takeName_61 : decode b_Reader_takeName 61 = .ok (.aload_n 0, 1) := by decide +kernel
theorem d_Reader_takeName_62 : decode b_Reader_takeName 62 = .ok (.bipush 11, 2) := by decide +kernel
theorem d_Reader_takeName_64 : decode b_Reader_takeName 64 = .ok (.iload_n 2, 1) := by decide +kernel
theorem d_Reader_takeName_65 : decode b_Reader_takeName 65 = .ok (.invokevirtual 54, 3) := by decide +kernel
theorem d_Reader_takeName_68 : decode b_Reader_takeName 68 = .ok (.goto 28, 3) := by decide +kernel
theorem d_Reader_takeName_71 : decode b_Reader_takeName 71 = .ok (.aload_n 0, 1) := by decide +kernel
theorem d_Reader_takeName_72 : decode b_Reader_takeName 72 = .ok (.getfield 84, 3) := by decide +kernel
theorem d_Reader_takeName_75 : decode b_Reader_takeName 75 = .ok (.sipush 200, 3) := by decide +kernel
theorem d_Reader_takeName_78 : decode b_Reader_takeName 78 = .ok (.if_icmp .ge 18, 3) := by decide +kernel
theorem d_Reader_takeName_81 : decode b_Reader_takeName 81 = .ok (.aload_n 0, 1) := by decide +kernel
theorem d_Reader_takeName_82 : decode b_Reader_takeName 82 = .ok (.getfield 21, 3) := by decide +kernel
theorem d_Reader_takeName_85 : decode b_Reader_takeName 85 = .ok (.aload_n 0, 1) := by decide +kernel
theorem d_Reader_takeName_86 : decode b_Reader_takeName 86 = .ok (.getfield 84, 3) := by decide +kernel
theorem d_Reader_takeName_89 : decode b_Reader_takeName 89 = .ok (.iload_n 1, 1) := by decide +kernel
theorem d_Reader_takeName_90 : decode b_Reader_takeName 90 = .ok (.iastore, 1) := by decide +kernel
theorem d_Reader_takeName_91 : decode b_Reader_takeName 91 = .ok (.aload_n 0, 1) := by decide +kernel
theorem d_Reader_takeName_92 : decode b_Reader_takeName 92 = .ok (.iconst 2, 1) := by decide +kernel
theorem d_Reader_takeName_93 : decode b_Reader_takeName 93 = .ok (.putfield 72, 3) := by decide +kernel
theorem d_Reader_takeName_96 : decode b_Reader_takeName 96 = .ok (.return_, 1) := by decide +kernel
theorem lk_Reader_138 : Cond.methodLink "TurtleWorld$Reader" 138 ⟨"TurtleWorld$Heap", "isWord", "(I)Z"⟩ ∈ tw_T := tw_i4 105 (by decide +kernel) (by decide +kernel)
theorem lk_Reader_141 : Cond.methodLink "TurtleWorld$Reader" 141 ⟨"TurtleWorld$Heap", "meaning", "(I)I"⟩ ∈ tw_T := tw_i4 108 (by decide +kernel) (by decide +kernel)
theorem hd_Heap_meaning : y_Heap_meaning.cls ≠ "java/lang/invoke/MethodHandle" ∧ y_Heap_meaning.cls ≠ "java/lang/invoke/VarHandle" ∧ (parseMethodDescriptor y_Heap_meaning.desc).map (fun d => d.parameters.length) = some 1 := by decide +kernel
theorem lk_Reader_156 : Cond.methodLink "TurtleWorld$Reader" 156 ⟨"TurtleWorld$Reader", "isNew", "(I)Z"⟩ ∈ tw_T := tw_i4 120 (by decide +kernel) (by decide +kernel)
theorem hd_Reader_isNew : y_Reader_isNew.cls ≠ "java/lang/invoke/MethodHandle" ∧ y_Reader_isNew.cls ≠ "java/lang/invoke/VarHandle" ∧ (parseMethodDescriptor y_Reader_isNew.desc).map (fun d => d.parameters.length) = some 1 := by decide +kernel
theorem in_Reader_isNew : Cond.instanceMethod ⟨"TurtleWorld$Reader", "isNew", "(I)Z"⟩ ∈ tw_T := tw_i4 122 (by decide +kernel) (by decide +kernel)
theorem sel_Reader_isNew : Cond.selects "TurtleWorld$Reader" ⟨"TurtleWorld$Reader", "isNew", "(I)Z"⟩ ⟨"TurtleWorld$Reader", "isNew", "(I)Z"⟩ ∈ tw_T := tw_inS 21 (by decide +kernel) (by decide +kernel)
theorem lk_Reader_159 : Cond.fieldLink "TurtleWorld$Reader" 159 "TurtleWorld$Procedures" "count" "I" ∈ tw_T := tw_i2 59 (by decide +kernel) (by decide +kernel)
theorem d_Reader_closeBody_0 : decode b_Reader_closeBody 0 = .ok (.aload_n 0, 1) := by decide +kernel
theorem d_Reader_closeBody_1 : decode b_Reader_closeBody 1 = .ok (.getfield 30, 3) := by decide +kernel
theorem d_Reader_closeBody_4 : decode b_Reader_closeBody 4 = .ok (.aload_n 0, 1) := by decide +kernel
theorem d_Reader_closeBody_5 : decode b_Reader_closeBody 5 = .ok (.getfield 15, 3) := by decide +kernel
theorem d_Reader_closeBody_8 : decode b_Reader_closeBody 8 = .ok (.iconst 0, 1) := by decide +kernel
theorem d_Reader_closeBody_9 : decode b_Reader_closeBody 9 = .ok (.aload_n 0, 1) := by decide +kernel
theorem d_Reader_closeBody_10 : decode b_Reader_closeBody 10 = .ok (.getfield 75, 3) := by decide +kernel
theorem d_Reader_closeBody_13 : decode b_Reader_closeBody 13 = .ok (.invokevirtual 123, 3) := by decide +kernel
theorem d_Reader_closeBody_16 : decode b_Reader_closeBody 16 = .ok (.istore_n 2, 1) := by decide +kernel
theorem d_Reader_closeBody_17 : decode b_Reader_closeBody 17 = .ok (.aload_n 0, 1) := by decide +kernel
theorem d_Reader_closeBody_18 : decode b_Reader_closeBody 18 = .ok (.iconst 0, 1) := by decide +kernel
theorem d_Reader_closeBody_19 : decode b_Reader_closeBody 19 = .ok (.putfield 75, 3) := by decide +kernel
theorem d_Reader_closeBody_22 : decode b_Reader_closeBody 22 = .ok (.aload_n 0, 1) := by decide +kernel
theorem d_Reader_closeBody_23 : decode b_Reader_closeBody 23 = .ok (.iconst 0, 1) := by decide +kernel
theorem d_Reader_closeBody_24 : decode b_Reader_closeBody 24 = .ok (.putfield 72, 3) := by decide +kernel
theorem d_Reader_closeBody_27 : decode b_Reader_closeBody 27 = .ok (.aload_n 0, 1) := by decide +kernel
theorem d_Reader_closeBody_28 : decode b_Reader_closeBody 28 = .ok (.getfield 84, 3) := by decide +kernel
theorem d_Reader_closeBody_31 : decode b_Reader_closeBody 31 = .ok (.sipush 200, 3) := by decide +kernel
theorem d_Reader_closeBody_34 : decode b_Reader_closeBody 34 = .ok (.if_icmp .ge 23, 3) := by decide +kernel
theorem d_Reader_closeBody_37 : decode b_Reader_closeBody 37 = .ok (.iload_n 2, 1) := by decide +kernel
theorem d_Reader_closeBody_38 : decode b_Reader_closeBody 38 = .ok (.ldc 127, 2) := by decide +kernel
theorem d_Reader_closeBody_40 : decode b_Reader_closeBody 40 = .ok (.if_icmp .eq 17, 3) := by decide +kernel
theorem d_Reader_closeBody_43 : decode b_Reader_closeBody 43 = .ok (.aload_n 0, 1) := by decide +kernel
theorem d_Reader_closeBody_44 : decode b_Reader_closeBody 44 = .ok (.getfield 24, 3) := by decide +kernel
theorem d_Reader_closeBody_47 : decode b_Reader_closeBody 47 = .ok (.aload_n 0, 1) := by decide +kernel
theorem d_Reader_closeBody_48 : decode b_Reader_closeBody 48 = .ok (.getfield 84, 3) := by decide +kernel
theorem d_Reader_closeBody_51 : decode b_Reader_closeBody 51 = .ok (.iaload, 1) := by decide +kernel
theorem d_Reader_closeBody_52 : decode b_Reader_closeBody 52 = .ok (.ldc 127, 2) := by decide +kernel
theorem d_Reader_closeBody_54 : decode b_Reader_closeBody 54 = .ok (.if_icmp .ne 13, 3) := by decide +kernel
theorem d_Reader_closeBody_57 : decode b_Reader_closeBody 57 = .ok (.aload_n 0, 1) := by decide +kernel
theorem d_Reader_closeBody_58 : decode b_Reader_closeBody 58 = .ok (.bipush 6, 2) := by decide +kernel
theorem d_Reader_closeBody_60 : decode b_Reader_closeBody 60 = .ok (.iload_n 1, 1) := by decide +kernel
theorem d_Reader_closeBody_61 : decode b_Reader_closeBody 61 = .ok (.invokevirtual 54, 3) := by decide +kernel
theorem d_Reader_closeBody_64 : decode b_Reader_closeBody 64 = .ok (.goto 23, 3) := by decide +kernel
theorem d_Reader_closeBody_67 : decode b_Reader_closeBody 67 = .ok (.aload_n 0, 1) := by decide +kernel
theorem d_Reader_closeBody_68 : decode b_Reader_closeBody 68 = .ok (.getfield 27, 3) := by decide +kernel
theorem d_Reader_closeBody_71 : decode b_Reader_closeBody 71 = .ok (.aload_n 0, 1) := by decide +kernel
theorem d_Reader_closeBody_72 : decode b_Reader_closeBody 72 = .ok (.getfield 84, 3) := by decide +kernel
theorem d_Reader_closeBody_75 : decode b_Reader_closeBody 75 = .ok (.iload_n 2, 1) := by decide +kernel
theorem d_Reader_closeBody_76 : decode b_Reader_closeBody 76 = .ok (.iastore, 1) := by decide +kernel
theorem d_Reader_closeBody_77 : decode b_Reader_closeBody 77 = .ok (.aload_n 0, 1) := by decide +kernel
theorem d_Reader_closeBody_78 : decode b_Reader_closeBody 78 = .ok (.dup, 1) := by decide +kernel
theorem d_Reader_closeBody_79 : decode b_Reader_closeBody 79 = .ok (.getfield 84, 3) := by decide +kernel
theorem d_Reader_closeBody_82 : decode b_Reader_closeBody 82 = .ok (.iconst 1, 1) := by decide +kernel
theorem d_Reader_closeBody_83 : decode b_Reader_closeBody 83 = .ok (.iadd, 1) := by decide +kernel
theorem d_Reader_closeBody_84 : decode b_Reader_closeBody 84 = .ok (.putfield 84, 3) := by decide +kernel
theorem d_Reader_closeBody_87 : decode b_Reader_closeBody 87 = .ok (.return_, 1) := by decide +kernel
theorem lk_Reader_177 : Cond.methodLink "TurtleWorld$Reader" 177 ⟨"TurtleWorld$Procedures", "tell", "(III)Z"⟩ ∈ tw_T := tw_i4 153 (by decide +kernel) (by decide +kernel)
theorem hd_Procedures_tell : y_Procedures_tell.cls ≠ "java/lang/invoke/MethodHandle" ∧ y_Procedures_tell.cls ≠ "java/lang/invoke/VarHandle" ∧ (parseMethodDescriptor y_Procedures_tell.desc).map (fun d => d.parameters.length) = some 3 := by decide +kernel
theorem in_Procedures_tell : Cond.instanceMethod ⟨"TurtleWorld$Procedures", "tell", "(III)Z"⟩ ∈ tw_T := tw_i4 154 (by decide +kernel) (by decide +kernel)
theorem sel_Procedures_tell : Cond.selects "TurtleWorld$Procedures" ⟨"TurtleWorld$Procedures", "tell", "(III)Z"⟩ ⟨"TurtleWorld$Procedures", "tell", "(III)Z"⟩ ∈ tw_T := tw_i4 155 (by decide +kernel) (by decide +kernel)
theorem lk_Heap_162 : Cond.methodLink "TurtleWorld$Heap" 162 ⟨"TurtleWorld$Heap", "movedWord", "(I)I"⟩ ∈ tw_T := tw_i4 188 (by decide +kernel) (by decide +kernel)
theorem hd_Heap_movedWord : y_Heap_movedWord.cls ≠ "java/lang/invoke/MethodHandle" ∧ y_Heap_movedWord.cls ≠ "java/lang/invoke/VarHandle" ∧ (parseMethodDescriptor y_Heap_movedWord.desc).map (fun d => d.parameters.length) = some 1 := by decide +kernel
theorem in_Heap_movedWord : Cond.instanceMethod ⟨"TurtleWorld$Heap", "movedWord", "(I)I"⟩ ∈ tw_T := tw_i4 190 (by decide +kernel) (by decide +kernel)
theorem sel_Heap_movedWord : Cond.selects "TurtleWorld$Heap" ⟨"TurtleWorld$Heap", "movedWord", "(I)I"⟩ ⟨"TurtleWorld$Heap", "movedWord", "(I)I"⟩ ∈ tw_T := tw_inS 28 (by decide +kernel) (by decide +kernel)
theorem hd_Heap_movedList : y_Heap_movedList.cls ≠ "java/lang/invoke/MethodHandle" ∧ y_Heap_movedList.cls ≠ "java/lang/invoke/VarHandle" ∧ (parseMethodDescriptor y_Heap_movedList.desc).map (fun d => d.parameters.length) = some 1 := by decide +kernel
theorem d_Machine_meetWord_0 : decode b_Machine_meetWord 0 = .ok (.aload_n 0, 1) := by decide +kernel
theorem d_Machine_meetWord_1 : decode b_Machine_meetWord 1 = .ok (.getfield 15, 3) := by decide +kernel
theorem d_Machine_meetWord_4 : decode b_Machine_meetWord 4 = .ok (.iload_n 1, 1) := by decide +kernel
theorem d_Machine_meetWord_5 : decode b_Machine_meetWord 5 = .ok (.invokevirtual 180, 3) := by decide +kernel
theorem d_Machine_meetWord_8 : decode b_Machine_meetWord 8 = .ok (.istore_n 2, 1) := by decide +kernel
theorem d_Machine_meetWord_9 : decode b_Machine_meetWord 9 = .ok (.iload_n 2, 1) := by decide +kernel
theorem d_Machine_meetWord_10 : decode b_Machine_meetWord 10 = .ok (.bipush 86, 2) := by decide +kernel
theorem d_Machine_meetWord_12 : decode b_Machine_meetWord 12 = .ok (.if_icmp .ne 12, 3) := by decide +kernel
theorem d_Machine_meetWord_15 : decode b_Machine_meetWord 15 = .ok (.aload_n 0, 1) := by decide +kernel
theorem d_Machine_meetWord_16 : decode b_Machine_meetWord 16 = .ok (.getfield 15, 3) := by decide +kernel
theorem d_Machine_meetWord_19 : decode b_Machine_meetWord 19 = .ok (.iload_n 1, 1) := by decide +kernel
theorem d_Machine_meetWord_20 : decode b_Machine_meetWord 20 = .ok (.invokevirtual 183, 3) := by decide +kernel
theorem d_Machine_meetWord_23 : decode b_Machine_meetWord 23 = .ok (.ireturn, 1) := by decide +kernel
theorem d_Machine_meetWord_24 : decode b_Machine_meetWord 24 = .ok (.iload_n 2, 1) := by decide +kernel
theorem d_Machine_meetWord_25 : decode b_Machine_meetWord 25 = .ok (.bipush 87, 2) := by decide +kernel
theorem d_Machine_meetWord_27 : decode b_Machine_meetWord 27 = .ok (.if_icmp .ne 32, 3) := by decide +kernel
theorem d_Machine_meetWord_30 : decode b_Machine_meetWord 30 = .ok (.aload_n 0, 1) := by decide +kernel
theorem d_Machine_meetWord_31 : decode b_Machine_meetWord 31 = .ok (.getfield 15, 3) := by decide +kernel
theorem d_Machine_meetWord_34 : decode b_Machine_meetWord 34 = .ok (.iload_n 1, 1) := by decide +kernel
theorem d_Machine_meetWord_35 : decode b_Machine_meetWord 35 = .ok (.invokevirtual 186, 3) := by decide +kernel
theorem d_Machine_meetWord_38 : decode b_Machine_meetWord 38 = .ok (.istore_n 3, 1) := by decide +kernel
theorem d_Machine_meetWord_39 : decode b_Machine_meetWord 39 = .ok (.iload_n 3, 1) := by decide +kernel
theorem d_Machine_meetWord_40 : decode b_Machine_meetWord 40 = .ok (.ldc 114, 2) := by decide +kernel
theorem d_Machine_meetWord_42 : decode b_Machine_meetWord 42 = .ok (.if_icmp .ne 8, 3) := by decide +kernel
theorem d_Machine_meetWord_45 : decode b_Machine_meetWord 45 = .ok (.ldc 189, 2) := by decide +kernel
theorem d_Machine_meetWord_47 : decode b_Machine_meetWord 47 = .ok (.goto 11, 3) := by decide +kernel
theorem d_Machine_meetWord_50 : decode b_Machine_meetWord 50 = .ok (.aload_n 0, 1) := by decide +kernel
theorem d_Machine_meetWord_51 : decode b_Machine_meetWord 51 = .ok (.getfield 26, 3) := by decide +kernel
theorem d_Machine_meetWord_54 : decode b_Machine_meetWord 54 = .ok (.iload_n 3, 1) := by decide +kernel
theorem d_Machine_meetWord_55 : decode b_Machine_meetWord 55 = .ok (.invokevirtual 190, 3) := by decide +kernel
theorem d_Machine_meetWord_58 : decode b_Machine_meetWord 58 = .ok (.ireturn, 1) := by decide +kernel
theorem d_Machine_meetWord_59 : decode b_Machine_meetWord 59 = .ok (.iload_n 2, 1) := by decide +kernel
theorem d_Machine_meetWord_60 : decode b_Machine_meetWord 60 = .ok (.ifCond .ne 9, 3) := by decide +kernel
theorem d_Machine_meetWord_63 : decode b_Machine_meetWord 63 = .ok (.aload_n 0, 1) := by decide +kernel
theorem d_Machine_meetWord_64 : decode b_Machine_meetWord 64 = .ok (.iload_n 1, 1) := by decide +kernel
theorem d_Machine_meetWord_65 : decode b_Machine_meetWord 65 = .ok (.invokevirtual 193, 3) := by decide +kernel
theorem d_Machine_meetWord_68 : decode b_Machine_meetWord 68 = .ok (.ireturn, 1) := by decide +kernel
theorem d_Machine_meetWord_69 : decode b_Machine_meetWord 69 = .ok (.iload_n 2, 1) := by decide +kernel
theorem d_Machine_meetWord_70 : decode b_Machine_meetWord 70 = .ok (.bipush 74, 2) := by decide +kernel
theorem d_Machine_meetWord_72 : decode b_Machine_meetWord 72 = .ok (.if_icmp .gt 27, 3) := by decide +kernel
theorem d_Machine_meetWord_75 : decode b_Machine_meetWord 75 = .ok (.aload_n 0, 1) := by decide +kernel
theorem d_Machine_meetWord_76 : decode b_Machine_meetWord 76 = .ok (.getfield 22, 3) := by decide +kernel
theorem d_Machine_meetWord_79 : decode b_Machine_meetWord 79 = .ok (.iconst 1, 1) := by decide +kernel
theorem d_Machine_meetWord_80 : decode b_Machine_meetWord 80 = .ok (.iload_n 2, 1) := by decide +kernel
theorem d_Machine_meetWord_81 : decode b_Machine_meetWord 81 = .ok (.aload_n 0, 1) := by decide +kernel
theorem d_Machine_meetWord_82 : decode b_Machine_meetWord 82 = .ok (.getfield 15, 3) := by decide +kernel
theorem d_Machine_meetWord_85 : decode b_Machine_meetWord 85 = .ok (.getfield 196, 3) := by decide +kernel
theorem d_Machine_meetWord_88 : decode b_Machine_meetWord 88 = .ok (.iload_n 2, 1) := by decide +kernel
theorem d_Machine_meetWord_89 : decode b_Machine_meetWord 89 = .ok (.invokevirtual 200, 3) := by decide +kernel
theorem d_Machine_meetWord_92 : decode b_Machine_meetWord 92 = .ok (.iconst 0, 1) := by decide +kernel
theorem d_Machine_meetWord_93 : decode b_Machine_meetWord 93 = .ok (.invokevirtual 205, 3) := by decide +kernel
theorem d_Machine_meetWord_96 : decode b_Machine_meetWord 96 = .ok (.goto 65, 3) := by decide +kernel
theorem d_Machine_meetWord_99 : decode b_Machine_meetWord 99 = .ok (.iload_n 2, 1) := by decide +kernel
theorem d_Machine_meetWord_100 : decode b_Machine_meetWord 100 = .ok (.bipush 75, 2) := by decide +kernel
theorem d_Machine_meetWord_102 : decode b_Machine_meetWord 102 = .ok (.if_icmp .ne 18, 3) := by decide +kernel
theorem d_Machine_meetWord_105 : decode b_Machine_meetWord 105 = .ok (.aload_n 0, 1) := by decide +kernel
theorem d_Machine_meetWord_106 : decode b_Machine_meetWord 106 = .ok (.getfield 22, 3) := by decide +kernel
theorem d_Machine_meetWord_109 : decode b_Machine_meetWord 109 = .ok (.iconst 4, 1) := by decide +kernel
theorem d_Machine_meetWord_110 : decode b_Machine_meetWord 110 = .ok (.bipush 75, 2) := by decide +kernel
theorem d_Machine_meetWord_112 : decode b_Machine_meetWord 112 = .ok (.iconst 1, 1) := by decide +kernel
theorem d_Machine_meetWord_113 : decode b_Machine_meetWord 113 = .ok (.iconst 0, 1) := by decide +kernel
theorem d_Machine_meetWord_114 : decode b_Machine_meetWord 114 = .ok (.invokevirtual 205, 3) := by decide +kernel
theorem d_Machine_meetWord_117 : decode b_Machine_meetWord 117 = .ok (.goto 44, 3) := by decide +kernel
theorem d_Machine_meetWord_120 : decode b_Machine_meetWord 120 = .ok (.iload_n 2, 1) := by decide +kernel
theorem d_Machine_meetWord_121 : decode b_Machine_meetWord 121 = .ok (.bipush 81, 2) := by decide +kernel
theorem d_Machine_meetWord_123 : decode b_Machine_meetWord 123 = .ok (.if_icmp .ne 18, 3) := by decide +kernel
theorem d_Machine_meetWord_126 : decode b_Machine_meetWord 126 = .ok (.aload_n 0, 1) := by decide +kernel
theorem d_Machine_meetWord_127 : decode b_Machine_meetWord 127 = .ok (.getfield 22, 3) := by decide +kernel
theorem d_Machine_meetWord_130 : decode b_Machine_meetWord 130 = .ok (.iconst 1, 1) := by decide +kernel
theorem d_Machine_meetWord_131 : decode b_Machine_meetWord 131 = .ok (.bipush 25, 2) := by decide +kernel
theorem d_Machine_meetWord_133 : decode b_Machine_meetWord 133 = .ok (.iconst 1, 1) := by decide +kernel
theorem d_Machine_meetWord_134 : decode b_Machine_meetWord 134 = .ok (.iconst 4, 1) := by decide +kernel
theorem d_Machine_meetWord_135 : decode b_Machine_meetWord 135 = .ok (.invokevirtual 205, 3) := by decide +kernel
theorem d_Machine_meetWord_138 : decode b_Machine_meetWord 138 = .ok (.goto 23, 3) := by decide +kernel
theorem d_Machine_meetWord_141 : decode b_Machine_meetWord 141 = .ok (.iload_n 2, 1) := by decide +kernel
theorem d_Machine_meetWord_142 : decode b_Machine_meetWord 142 = .ok (.bipush 84, 2) := by decide +kernel
theorem d_Machine_meetWord_144 : decode b_Machine_meetWord 144 = .ok (.if_icmp .eq 9, 3) := by decide +kernel
theorem d_Machine_meetWord_147 : decode b_Machine_meetWord 147 = .ok (.iload_n 2, 1) := by decide +kernel
theorem d_Machine_meetWord_148 : decode b_Machine_meetWord 148 = .ok (.bipush 85, 2) := by decide +kernel
theorem d_Machine_meetWord_150 : decode b_Machine_meetWord 150 = .ok (.if_icmp .ne 8, 3) := by decide +kernel
theorem d_Machine_meetWord_153 : decode b_Machine_meetWord 153 = .ok (.ldc 208, 2) := by decide +kernel
theorem d_Machine_meetWord_155 : decode b_Machine_meetWord 155 = .ok (.goto 5, 3) := by decide +kernel
theorem d_Machine_meetWord_158 : decode b_Machine_meetWord 158 = .ok (.ldc 160, 2) := by decide +kernel
theorem d_Machine_meetWord_160 : decode b_Machine_meetWord 160 = .ok (.ireturn, 1) := by decide +kernel
theorem d_Machine_meetWord_161 : decode b_Machine_meetWord 161 = .ok (.aload_n 0, 1) := by decide +kernel
theorem d_Machine_meetWord_162 : decode b_Machine_meetWord 162 = .ok (.getfield 22, 3) := by decide +kernel
theorem d_Machine_meetWord_165 : decode b_Machine_meetWord 165 = .ok (.invokevirtual 209, 3) := by decide +kernel
theorem d_Machine_meetWord_168 : decode b_Machine_meetWord 168 = .ok (.ireturn, 1) := by decide +kernel
theorem lk_Machine_196 : Cond.fieldLink "TurtleWorld$Machine" 196 "TurtleWorld$Heap" "lexicon" "LTurtleWorld$Lexicon;" ∈ tw_T := tw_i1 198 (by decide +kernel) (by decide +kernel)
theorem lk_Machine_200 : Cond.methodLink "TurtleWorld$Machine" 200 ⟨"TurtleWorld$Lexicon", "arity", "(I)I"⟩ ∈ tw_T := tw_i5 96 (by decide +kernel) (by decide +kernel)
theorem lk_Machine_193 : Cond.methodLink "TurtleWorld$Machine" 193 ⟨"TurtleWorld$Machine", "meetProcedure", "(I)I"⟩ ∈ tw_T := tw_i5 75 (by decide +kernel) (by decide +kernel)
theorem hd_Machine_meetProcedure : y_Machine_meetProcedure.cls ≠ "java/lang/invoke/MethodHandle" ∧ y_Machine_meetProcedure.cls ≠ "java/lang/invoke/VarHandle" ∧ (parseMethodDescriptor y_Machine_meetProcedure.desc).map (fun d => d.parameters.length) = some 1 := by decide +kernel
theorem in_Machine_meetProcedure : Cond.instanceMethod ⟨"TurtleWorld$Machine", "meetProcedure", "(I)I"⟩ ∈ tw_T := tw_i5 77 (by decide +kernel) (by decide +kernel)
theorem sel_Machine_meetProcedure : Cond.selects "TurtleWorld$Machine" ⟨"TurtleWorld$Machine", "meetProcedure", "(I)I"⟩ ⟨"TurtleWorld$Machine", "meetProcedure", "(I)I"⟩ ∈ tw_T := tw_inS 37 (by decide +kernel) (by decide +kernel)
theorem lk_Machine_186 : Cond.methodLink "TurtleWorld$Machine" 186 ⟨"TurtleWorld$Heap", "behind", "(I)I"⟩ ∈ tw_T := tw_i5 58 (by decide +kernel) (by decide +kernel)
theorem lk_Machine_190 : Cond.methodLink "TurtleWorld$Machine" 190 ⟨"TurtleWorld$Names", "find", "(I)I"⟩ ∈ tw_T := tw_i5 60 (by decide +kernel) (by decide +kernel)
theorem hd_Names_find : y_Names_find.cls ≠ "java/lang/invoke/MethodHandle" ∧ y_Names_find.cls ≠ "java/lang/invoke/VarHandle" ∧ (parseMethodDescriptor y_Names_find.desc).map (fun d => d.parameters.length) = some 1 := by decide +kernel
theorem in_Names_find : Cond.instanceMethod ⟨"TurtleWorld$Names", "find", "(I)I"⟩ ∈ tw_T := tw_i5 61 (by decide +kernel) (by decide +kernel)
theorem sel_Names_find : Cond.selects "TurtleWorld$Names" ⟨"TurtleWorld$Names", "find", "(I)I"⟩ ⟨"TurtleWorld$Names", "find", "(I)I"⟩ ∈ tw_T := tw_i5 62 (by decide +kernel) (by decide +kernel)
theorem lk_Machine_189 : Cond.constant "TurtleWorld$Machine" 189 (-2147483646) ∈ tw_T := tw_i5 59 (by decide +kernel) (by decide +kernel)
theorem lk_Machine_183 : Cond.methodLink "TurtleWorld$Machine" 183 ⟨"TurtleWorld$Heap", "quoted", "(I)I"⟩ ∈ tw_T := tw_i5 51 (by decide +kernel) (by decide +kernel)
theorem hd_Heap_quoted : y_Heap_quoted.cls ≠ "java/lang/invoke/MethodHandle" ∧ y_Heap_quoted.cls ≠ "java/lang/invoke/VarHandle" ∧ (parseMethodDescriptor y_Heap_quoted.desc).map (fun d => d.parameters.length) = some 1 := by decide +kernel
theorem in_Heap_quoted : Cond.instanceMethod ⟨"TurtleWorld$Heap", "quoted", "(I)I"⟩ ∈ tw_T := tw_i5 52 (by decide +kernel) (by decide +kernel)
theorem sel_Heap_quoted : Cond.selects "TurtleWorld$Heap" ⟨"TurtleWorld$Heap", "quoted", "(I)I"⟩ ⟨"TurtleWorld$Heap", "quoted", "(I)I"⟩ ∈ tw_T := tw_i5 53 (by decide +kernel) (by decide +kernel)
theorem d_Machine_finishTest_0 : decode b_Machine_finishTest 0 = .ok (.iload_n 2, 1) := by decide +kernel
theorem d_Machine_finishTest_1 : decode b_Machine_finishTest 1 = .ok (.ldc 114, 2) := by decide +kernel
theorem d_Machine_finishTest_3 : decode b_Machine_finishTest 3 = .ok (.if_icmp .ne 6, 3) := by decide +kernel
theorem d_Machine_finishTest_6 : decode b_Machine_finishTest 6 = .ok (.ldc 160, 2) := by decide +kernel
theorem d_Machine_finishTest_8 : decode b_Machine_finishTest 8 = .ok (.ireturn, 1) := by decide +kernel
theorem d_Machine_finishTest_9 : decode b_Machine_finishTest 9 = .ok (.iload_n 2, 1) := by decide +kernel
theorem d_Machine_finishTest_10 : decode b_Machine_finishTest 10 = .ok (.invokestatic 173, 3) := by decide +kernel
theorem d_Machine_finishTest_13 : decode b_Machine_finishTest 13 = .ok (.ifCond .ne 7, 3) := by decide +kernel
theorem d_Machine_finishTest_16 : decode b_Machine_finishTest 16 = .ok (.ldc_w 276, 3) := by decide +kernel
theorem d_Machine_finishTest_19 : decode b_Machine_finishTest 19 = .ok (.ireturn, 1) := by decide +kernel
theorem d_Machine_finishTest_20 : decode b_Machine_finishTest 20 = .ok (.aload_n 0, 1) := by decide +kernel
theorem d_Machine_finishTest_21 : decode b_Machine_finishTest 21 = .ok (.getfield 15, 3) := by decide +kernel
theorem d_Machine_finishTest_24 : decode b_Machine_finishTest 24 = .ok (.iload_n 2, 1) := by decide +kernel
theorem d_Machine_finishTest_25 : decode b_Machine_finishTest 25 = .ok (.aload_n 0, 1) := by decide +kernel
theorem d_Machine_finishTest_26 : decode b_Machine_finishTest 26 = .ok (.getfield 15, 3) := by decide +kernel
theorem d_Machine_finishTest_29 : decode b_Machine_finishTest 29 = .ok (.getfield 277, 3) := by decide +kernel
theorem d_Machine_finishTest_32 : decode b_Machine_finishTest 32 = .ok (.invokevirtual 280, 3) := by decide +kernel
theorem d_Machine_finishTest_35 : decode b_Machine_finishTest 35 = .ok (.ifCond .eq 10, 3) := by decide +kernel
theorem d_Machine_finishTest_38 : decode b_Machine_finishTest 38 = .ok (.aload_n 0, 1) := by decide +kernel
theorem d_Machine_finishTest_39 : decode b_Machine_finishTest 39 = .ok (.iload_n 1, 1) := by decide +kernel
theorem d_Machine_finishTest_40 : decode b_Machine_finishTest 40 = .ok (.iconst 4, 1) := by decide +kernel
theorem d_Machine_finishTest_41 : decode b_Machine_finishTest 41 = .ok (.invokevirtual 284, 3) := by decide +kernel
theorem d_Machine_finishTest_44 : decode b_Machine_finishTest 44 = .ok (.ireturn, 1) := by decide +kernel
theorem d_Machine_finishTest_45 : decode b_Machine_finishTest 45 = .ok (.aload_n 0, 1) := by decide +kernel
theorem d_Machine_finishTest_46 : decode b_Machine_finishTest 46 = .ok (.getfield 15, 3) := by decide +kernel
theorem d_Machine_finishTest_49 : decode b_Machine_finishTest 49 = .ok (.iload_n 2, 1) := by decide +kernel
theorem d_Machine_finishTest_50 : decode b_Machine_finishTest 50 = .ok (.aload_n 0, 1) := by decide +kernel
theorem d_Machine_finishTest_51 : decode b_Machine_finishTest 51 = .ok (.getfield 15, 3) := by decide +kernel
theorem d_Machine_finishTest_54 : decode b_Machine_finishTest 54 = .ok (.getfield 287, 3) := by decide +kernel
theorem d_Machine_finishTest_57 : decode b_Machine_finishTest 57 = .ok (.invokevirtual 280, 3) := by decide +kernel
theorem d_Machine_finishTest_60 : decode b_Machine_finishTest 60 = .ok (.ifCond .eq 13, 3) := by decide +kernel
theorem d_Machine_finishTest_63 : decode b_Machine_finishTest 63 = .ok (.aload_n 0, 1) := by decide +kernel
theorem d_Machine_finishTest_64 : decode b_Machine_finishTest 64 = .ok (.iload_n 1, 1) := by decide +kernel
theorem d_Machine_finishTest_65 : decode b_Machine_finishTest 65 = .ok (.ldc 114, 2) := by decide +kernel
theorem d_Machine_finishTest_67 : decode b_Machine_finishTest 67 = .ok (.invokevirtual 264, 3) := by decide +kernel
theorem d_Machine_finishTest_70 : decode b_Machine_finishTest 70 = .ok (.goto 6, 3) := by decide +kernel
theorem d_Machine_finishTest_73 : decode b_Machine_finishTest 73 = .ok (.ldc_w 276, 3) := by decide +kernel
theorem d_Machine_finishTest_76 : decode b_Machine_finishTest 76 = .ok (.ireturn, 1) := by decide +kernel
theorem lk_Machine_277 : Cond.fieldLink "TurtleWorld$Machine" 277 "TurtleWorld$Heap" "yes" "I" ∈ tw_T := tw_i1 201 (by decide +kernel) (by decide +kernel)
theorem lk_Machine_280 : Cond.methodLink "TurtleWorld$Machine" 280 ⟨"TurtleWorld$Heap", "sameWord", "(II)Z"⟩ ∈ tw_T := tw_i5 160 (by decide +kernel) (by decide +kernel)
theorem lk_Machine_287 : Cond.fieldLink "TurtleWorld$Machine" 287 "TurtleWorld$Heap" "no" "I" ∈ tw_T := tw_i1 204 (by decide +kernel) (by decide +kernel)
theorem lk_Machine_264 : Cond.methodLink "TurtleWorld$Machine" 264 ⟨"TurtleWorld$Machine", "leaveGiving", "(II)I"⟩ ∈ tw_T := tw_i5 151 (by decide +kernel) (by decide +kernel)
theorem hd_Machine_leaveGiving : y_Machine_leaveGiving.cls ≠ "java/lang/invoke/MethodHandle" ∧ y_Machine_leaveGiving.cls ≠ "java/lang/invoke/VarHandle" ∧ (parseMethodDescriptor y_Machine_leaveGiving.desc).map (fun d => d.parameters.length) = some 2 := by decide +kernel
theorem in_Machine_leaveGiving : Cond.instanceMethod ⟨"TurtleWorld$Machine", "leaveGiving", "(II)I"⟩ ∈ tw_T := tw_i5 153 (by decide +kernel) (by decide +kernel)
theorem sel_Machine_leaveGiving : Cond.selects "TurtleWorld$Machine" ⟨"TurtleWorld$Machine", "leaveGiving", "(II)I"⟩ ⟨"TurtleWorld$Machine", "leaveGiving", "(II)I"⟩ ∈ tw_T := tw_inS 46 (by decide +kernel) (by decide +kernel)
theorem d_Machine_finishMapped_0 : decode b_Machine_finishMapped 0 = .ok (.iload_n 2, 1) := by decide +kernel
theorem d_Machine_finishMapped_1 : decode b_Machine_finishMapped 1 = .ok (.ldc 114, 2) := by decide +kernel
theorem d_Machine_finishMapped_3 : decode b_Machine_finishMapped 3 = .ok (.if_icmp .ne 6, 3) := by decide +kernel
theorem d_Machine_finishMapped_6 : decode b_Machine_finishMapped 6 = .ok (.ldc 160, 2) := by decide +kernel
theorem d_Machine_finishMapped_8 : decode b_Machine_finishMapped 8 = .ok (.ireturn, 1) := by decide +kernel
theorem d_Machine_finishMapped_9 : decode b_Machine_finishMapped 9 = .ok (.aload_n 0, 1) := by decide +kernel
theorem d_Machine_finishMapped_10 : decode b_Machine_finishMapped 10 = .ok (.getfield 18, 3) := by decide +kernel
theorem d_Machine_finishMapped_13 : decode b_Machine_finishMapped 13 = .ok (.getfield 258, 3) := by decide +kernel
theorem d_Machine_finishMapped_16 : decode b_Machine_finishMapped 16 = .ok (.iload_n 1, 1) := by decide +kernel
theorem d_Machine_finishMapped_17 : decode b_Machine_finishMapped 17 = .ok (.iaload, 1) := by decide +kernel
theorem d_Machine_finishMapped_18 : decode b_Machine_finishMapped 18 = .ok (.aload_n 0, 1) := by decide +kernel
theorem d_Machine_finishMapped_19 : decode b_Machine_finishMapped 19 = .ok (.getfield 15, 3) := by decide +kernel
theorem d_Machine_finishMapped_22 : decode b_Machine_finishMapped 22 = .ok (.iload_n 2, 1) := by decide +kernel
theorem d_Machine_finishMapped_23 : decode b_Machine_finishMapped 23 = .ok (.invokevirtual 290, 3) := by decide +kernel
theorem d_Machine_finishMapped_26 : decode b_Machine_finishMapped 26 = .ok (.iadd, 1) := by decide +kernel
theorem d_Machine_finishMapped_27 : decode b_Machine_finishMapped 27 = .ok (.istore_n 3, 1) := by decide +kernel
theorem d_Machine_finishMapped_28 : decode b_Machine_finishMapped 28 = .ok (.iload_n 3, 1) := by decide +kernel
theorem d_Machine_finishMapped_29 : decode b_Machine_finishMapped 29 = .ok (.sipush 600, 3) := by decide +kernel
theorem d_Machine_finishMapped_32 : decode b_Machine_finishMapped 32 = .ok (.if_icmp .gt 16, 3) := by decide +kernel
theorem d_Machine_finishMapped_35 : decode b_Machine_finishMapped 35 = .ok (.aload_n 0, 1) := by decide +kernel
theorem d_Machine_finishMapped_36 : decode b_Machine_finishMapped 36 = .ok (.getfield 18, 3) := by decide +kernel
theorem d_Machine_finishMapped_39 : decode b_Machine_finishMapped 39 = .ok (.getfield 293, 3) := by decide +kernel
theorem d_Machine_finishMapped_42 : decode b_Machine_finishMapped 42 = .ok (.sipush 30000, 3) := by decide +kernel
theorem d_Machine_finishMapped_45 : decode b_Machine_finishMapped 45 = .ok (.if_icmp .lt 7, 3) := by decide +kernel
theorem d_Machine_finishMapped_48 : decode b_Machine_finishMapped 48 = .ok (.ldc_w 296, 3) := by decide +kernel
theorem d_Machine_finishMapped_51 : decode b_Machine_finishMapped 51 = .ok (.ireturn, 1) := by decide +kernel
theorem d_Machine_finishMapped_52 : decode b_Machine_finishMapped 52 = .ok (.aload_n 0, 1) := by decide +kernel
theorem d_Machine_finishMapped_53 : decode b_Machine_finishMapped 53 = .ok (.getfield 18, 3) := by decide +kernel
theorem d_Machine_finishMapped_56 : decode b_Machine_finishMapped 56 = .ok (.dup, 1) := by decide +kernel
theorem d_Machine_finishMapped_57 : decode b_Machine_finishMapped 57 = .ok (.getfield 293, 3) := by decide +kernel
theorem d_Machine_finishMapped_60 : decode b_Machine_finishMapped 60 = .ok (.iconst 1, 1) := by decide +kernel
theorem d_Machine_finishMapped_61 : decode b_Machine_finishMapped 61 = .ok (.iadd, 1) := by decide +kernel
theorem d_Machine_finishMapped_62 : decode b_Machine_finishMapped 62 = .ok (.putfield 293, 3) := by decide +kernel
theorem d_Machine_finishMapped_65 : decode b_Machine_finishMapped 65 = .ok (.aload_n 0, 1) := by decide +kernel
theorem d_Machine_finishMapped_66 : decode b_Machine_finishMapped 66 = .ok (.getfield 18, 3) := by decide +kernel
theorem d_Machine_finishMapped_69 : decode b_Machine_finishMapped 69 = .ok (.getfield 258, 3) := by decide +kernel
theorem d_Machine_finishMapped_72 : decode b_Machine_finishMapped 72 = .ok (.iload_n 1, 1) := by decide +kernel
theorem d_Machine_finishMapped_73 : decode b_Machine_finishMapped 73 = .ok (.iload_n 3, 1) := by decide +kernel
theorem d_Machine_finishMapped_74 : decode b_Machine_finishMapped 74 = .ok (.iastore, 1) := by decide +kernel
theorem d_Machine_finishMapped_75 : decode b_Machine_finishMapped 75 = .ok (.aload_n 0, 1) := by decide +kernel
theorem d_Machine_finishMapped_76 : decode b_Machine_finishMapped 76 = .ok (.getfield 22, 3) := by decide +kernel
theorem d_Machine_finishMapped_79 : decode b_Machine_finishMapped 79 = .ok (.iload_n 2, 1) := by decide +kernel
theorem d_Machine_finishMapped_80 : decode b_Machine_finishMapped 80 = .ok (.invokevirtual 251, 3) := by decide +kernel
theorem d_Machine_finishMapped_83 : decode b_Machine_finishMapped 83 = .ok (.aload_n 0, 1) := by decide +kernel
theorem d_Machine_finishMapped_84 : decode b_Machine_finishMapped 84 = .ok (.getfield 18, 3) := by decide +kernel
theorem d_Machine_finishMapped_87 : decode b_Machine_finishMapped 87 = .ok (.getfield 255, 3) := by decide +kernel
theorem d_Machine_finishMapped_90 : decode b_Machine_finishMapped 90 = .ok (.iload_n 1, 1) := by decide +kernel
theorem d_Machine_finishMapped_91 : decode b_Machine_finishMapped 91 = .ok (.iaload, 1) := by decide +kernel
theorem d_Machine_finishMapped_92 : decode b_Machine_finishMapped 92 = .ok (.aload_n 0, 1) := by decide +kernel
theorem d_Machine_finishMapped_93 : decode b_Machine_finishMapped 93 = .ok (.getfield 15, 3) := by decide +kernel
theorem d_Machine_finishMapped_96 : decode b_Machine_finishMapped 96 = .ok (.aload_n 0, 1) := by decide +kernel
theorem d_Machine_finishMapped_97 : decode b_Machine_finishMapped 97 = .ok (.getfield 18, 3) := by decide +kernel
theorem d_Machine_finishMapped_100 : decode b_Machine_finishMapped 100 = .ok (.getfield 267, 3) := by decide +kernel
theorem d_Machine_finishMapped_103 : decode b_Machine_finishMapped 103 = .ok (.iload_n 1, 1) := by decide +kernel
theorem d_Machine_finishMapped_104 : decode b_Machine_finishMapped 104 = .ok (.iaload, 1) := by decide +kernel
theorem d_Machine_finishMapped_105 : decode b_Machine_finishMapped 105 = .ok (.invokevirtual 221, 3) := by decide +kernel
theorem d_Machine_finishMapped_108 : decode b_Machine_finishMapped 108 = .ok (.if_icmp .ge 8, 3) := by decide +kernel
theorem d_Machine_finishMapped_111 : decode b_Machine_finishMapped 111 = .ok (.aload_n 0, 1) := by decide +kernel
theorem d_Machine_finishMapped_112 : decode b_Machine_finishMapped 112 = .ok (.invokevirtual 261, 3) := by decide +kernel
theorem d_Machine_finishMapped_115 : decode b_Machine_finishMapped 115 = .ok (.ireturn, 1) := by decide +kernel
theorem d_Machine_finishMapped_116 : decode b_Machine_finishMapped 116 = .ok (.aload_n 0, 1) := by decide +kernel
theorem d_Machine_finishMapped_117 : decode b_Machine_finishMapped 117 = .ok (.getfield 18, 3) := by decide +kernel
theorem d_Machine_finishMapped_120 : decode b_Machine_finishMapped 120 = .ok (.getfield 154, 3) := by decide +kernel
theorem d_Machine_finishMapped_123 : decode b_Machine_finishMapped 123 = .ok (.iload_n 1, 1) := by decide +kernel
theorem d_Machine_finishMapped_124 : decode b_Machine_finishMapped 124 = .ok (.iaload, 1) := by decide +kernel
theorem d_Machine_finishMapped_125 : decode b_Machine_finishMapped 125 = .ok (.istore 4, 2) := by decide +kernel
theorem d_Machine_finishMapped_127 : decode b_Machine_finishMapped 127 = .ok (.aload_n 0, 1) := by decide +kernel
theorem d_Machine_finishMapped_128 : decode b_Machine_finishMapped 128 = .ok (.getfield 15, 3) := by decide +kernel
theorem d_Machine_finishMapped_131 : decode b_Machine_finishMapped 131 = .ok (.aload_n 0, 1) := by decide +kernel
theorem d_Machine_finishMapped_132 : decode b_Machine_finishMapped 132 = .ok (.getfield 22, 3) := by decide +kernel
theorem d_Machine_finishMapped_135 : decode b_Machine_finishMapped 135 = .ok (.getfield 297, 3) := by decide +kernel
theorem d_Machine_finishMapped_138 : decode b_Machine_finishMapped 138 = .ok (.iload 4, 2) := by decide +kernel
theorem d_Machine_finishMapped_140 : decode b_Machine_finishMapped 140 = .ok (.aload_n 0, 1) := by decide +kernel
theorem d_Machine_finishMapped_141 : decode b_Machine_finishMapped 141 = .ok (.getfield 22, 3) := by decide +kernel
theorem d_Machine_finishMapped_144 : decode b_Machine_finishMapped 144 = .ok (.getfield 157, 3) := by decide +kernel
theorem d_Machine_finishMapped_147 : decode b_Machine_finishMapped 147 = .ok (.iload 4, 2) := by decide +kernel
theorem d_Machine_finishMapped_149 : decode b_Machine_finishMapped 149 = .ok (.isub, 1) := by decide +kernel
theorem d_Machine_finishMapped_150 : decode b_Machine_finishMapped 150 = .ok (.invokevirtual 298, 3) := by decide +kernel
theorem d_Machine_finishMapped_153 : decode b_Machine_finishMapped 153 = .ok (.istore 5, 2) := by decide +kernel
theorem d_Machine_finishMapped_155 : decode b_Machine_finishMapped 155 = .ok (.aload_n 0, 1) := by decide +kernel
theorem d_Machine_finishMapped_156 : decode b_Machine_finishMapped 156 = .ok (.iload_n 1, 1) := by decide +kernel
theorem d_Machine_finishMapped_157 : decode b_Machine_finishMapped 157 = .ok (.iload 5, 2) := by decide +kernel
theorem d_Machine_finishMapped_159 : decode b_Machine_finishMapped 159 = .ok (.ldc 114, 2) := by decide +kernel
theorem d_Machine_finishMapped_161 : decode b_Machine_finishMapped 161 = .ok (.if_icmp .ne 9, 3) := by decide +kernel
theorem d_Machine_finishMapped_164 : decode b_Machine_finishMapped 164 = .ok (.ldc_w 296, 3) := by decide +kernel
theorem d_Machine_finishMapped_167 : decode b_Machine_finishMapped 167 = .ok (.goto 5, 3) := by decide +kernel
theorem d_Machine_finishMapped_170 : decode b_Machine_finishMapped 170 = .ok (.iload 5, 2) := by decide +kernel
theorem d_Machine_finishMapped_172 : decode b_Machine_finishMapped 172 = .ok (.invokevirtual 264, 3) := by decide +kernel
theorem d_Machine_finishMapped_175 : decode b_Machine_finishMapped 175 = .ok (.ireturn, 1) := by decide +kernel
theorem lk_Machine_290 : Cond.methodLink "TurtleWorld$Machine" 290 ⟨"TurtleWorld$Heap", "size", "(I)I"⟩ ∈ tw_T := tw_i5 169 (by decide +kernel) (by decide +kernel)
theorem lk_Machine_297 : Cond.fieldLink "TurtleWorld$Machine" 297 "TurtleWorld$Waiting" "values" "[I" ∈ tw_T := tw_i3 99 (by decide +kernel) (by decide +kernel)
theorem lk_Machine_298 : Cond.methodLink "TurtleWorld$Machine" 298 ⟨"TurtleWorld$Heap", "newListOf", "([III)I"⟩ ∈ tw_T := tw_i5 171 (by decide +kernel) (by decide +kernel)
theorem lk_Machine_261 : Cond.methodLink "TurtleWorld$Machine" 261 ⟨"TurtleWorld$Machine", "awaitTurn", "()I"⟩ ∈ tw_T := tw_i5 147 (by decide +kernel) (by decide +kernel)
theorem hd_Machine_awaitTurn : y_Machine_awaitTurn.cls ≠ "java/lang/invoke/MethodHandle" ∧ y_Machine_awaitTurn.cls ≠ "java/lang/invoke/VarHandle" ∧ (parseMethodDescriptor y_Machine_awaitTurn.desc).map (fun d => d.parameters.length) = some 0 := by decide +kernel
theorem in_Machine_awaitTurn : Cond.instanceMethod ⟨"TurtleWorld$Machine", "awaitTurn", "()I"⟩ ∈ tw_T := tw_i5 149 (by decide +kernel) (by decide +kernel)
theorem sel_Machine_awaitTurn : Cond.selects "TurtleWorld$Machine" ⟨"TurtleWorld$Machine", "awaitTurn", "()I"⟩ ⟨"TurtleWorld$Machine", "awaitTurn", "()I"⟩ ∈ tw_T := tw_inS 45 (by decide +kernel) (by decide +kernel)
theorem d_Machine_fail_0 : decode b_Machine_fail 0 = .ok (.aload_n 0, 1) := by decide +kernel
theorem d_Machine_fail_1 : decode b_Machine_fail 1 = .ok (.getfield 18, 3) := by decide +kernel
theorem d_Machine_fail_4 : decode b_Machine_fail 4 = .ok (.aload_n 0, 1) := by decide +kernel
theorem d_Machine_fail_5 : decode b_Machine_fail 5 = .ok (.getfield 15, 3) := by decide +kernel
theorem d_Machine_fail_8 : decode b_Machine_fail 8 = .ok (.getfield 118, 3) := by decide +kernel
theorem d_Machine_fail_11 : decode b_Machine_fail 11 = .ok (.invokevirtual 123, 3) := by decide +kernel
theorem d_Machine_fail_14 : decode b_Machine_fail 14 = .ok (.istore_n 2, 1) := by decide +kernel
theorem d_Machine_fail_15 : decode b_Machine_fail 15 = .ok (.iload_n 2, 1) := by decide +kernel
theorem d_Machine_fail_16 : decode b_Machine_fail 16 = .ok (.ifCond .ge 10, 3) := by decide +kernel
theorem d_Machine_fail_19 : decode b_Machine_fail 19 = .ok (.aload_n 0, 1) := by decide +kernel
theorem d_Machine_fail_20 : decode b_Machine_fail 20 = .ok (.iconst 3, 1) := by decide +kernel
theorem d_Machine_fail_21 : decode b_Machine_fail 21 = .ok (.iload_n 1, 1) := by decide +kernel
theorem d_Machine_fail_22 : decode b_Machine_fail 22 = .ok (.invokevirtual 106, 3) := by decide +kernel
theorem d_Machine_fail_25 : decode b_Machine_fail 25 = .ok (.return_, 1) := by decide +kernel
theorem d_Machine_fail_26 : decode b_Machine_fail 26 = .ok (.aload_n 0, 1) := by decide +kernel
theorem d_Machine_fail_27 : decode b_Machine_fail 27 = .ok (.getfield 18, 3) := by decide +kernel
theorem d_Machine_fail_30 : decode b_Machine_fail 30 = .ok (.iload_n 1, 1) := by decide +kernel
theorem d_Machine_fail_31 : decode b_Machine_fail 31 = .ok (.putfield 127, 3) := by decide +kernel
theorem d_Machine_fail_34 : decode b_Machine_fail 34 = .ok (.aload_n 0, 1) := by decide +kernel
theorem d_Machine_fail_35 : decode b_Machine_fail 35 = .ok (.iload_n 2, 1) := by decide +kernel
theorem d_Machine_fail_36 : decode b_Machine_fail 36 = .ok (.invokevirtual 87, 3) := by decide +kernel
theorem d_Machine_fail_39 : decode b_Machine_fail 39 = .ok (.aload_n 0, 1) := by decide +kernel
theorem d_Machine_fail_40 : decode b_Machine_fail 40 = .ok (.ldc 114, 2) := by decide +kernel
theorem d_Machine_fail_42 : decode b_Machine_fail 42 = .ok (.putfield 111, 3) := by decide +kernel
theorem d_Machine_fail_45 : decode b_Machine_fail 45 = .ok (.return_, 1) := by decide +kernel
theorem lk_Machine_118 : Cond.fieldLink "TurtleWorld$Machine" 118 "TurtleWorld$Heap" "errorTag" "I" ∈ tw_T := tw_i1 206 (by decide +kernel) (by decide +kernel)
theorem lk_Machine_123 : Cond.methodLink "TurtleWorld$Machine" 123 ⟨"TurtleWorld$Line", "newestCatch", "(I)I"⟩ ∈ tw_T := tw_i5 180 (by decide +kernel) (by decide +kernel)
theorem hd_Line_newestCatch : y_Line_newestCatch.cls ≠ "java/lang/invoke/MethodHandle" ∧ y_Line_newestCatch.cls ≠ "java/lang/invoke/VarHandle" ∧ (parseMethodDescriptor y_Line_newestCatch.desc).map (fun d => d.parameters.length) = some 1 := by decide +kernel
theorem in_Line_newestCatch : Cond.instanceMethod ⟨"TurtleWorld$Line", "newestCatch", "(I)I"⟩ ∈ tw_T := tw_i5 181 (by decide +kernel) (by decide +kernel)
theorem sel_Line_newestCatch : Cond.selects "TurtleWorld$Line" ⟨"TurtleWorld$Line", "newestCatch", "(I)I"⟩ ⟨"TurtleWorld$Line", "newestCatch", "(I)I"⟩ ∈ tw_T := tw_i5 182 (by decide +kernel) (by decide +kernel)
theorem hd_Machine_finishLine : y_Machine_finishLine.cls ≠ "java/lang/invoke/MethodHandle" ∧ y_Machine_finishLine.cls ≠ "java/lang/invoke/VarHandle" ∧ (parseMethodDescriptor y_Machine_finishLine.desc).map (fun d => d.parameters.length) = some 2 := by decide +kernel
theorem d_Turtles_forward_0 : decode b_Turtles_forward 0 = .ok (.iload_n 1, 1) := by decide +kernel
theorem d_Turtles_forward_1 : decode b_Turtles_forward 1 = .ok (.sipush (-1000), 3) := by decide +kernel
theorem d_Turtles_forward_4 : decode b_Turtles_forward 4 = .ok (.if_icmp .lt 20, 3) := by decide +kernel
theorem d_Turtles_forward_7 : decode b_Turtles_forward 7 = .ok (.iload_n 1, 1) := by decide +kernel
theorem d_Turtles_forward_8 : decode b_Turtles_forward 8 = .ok (.sipush 1000, 3) := by decide +kernel
theorem d_Turtles_forward_11 : decode b_Turtles_forward 11 = .ok (.if_icmp .gt 13, 3) := by decide +kernel
theorem d_Turtles_forward_14 : decode b_Turtles_forward 14 = .ok (.aload_n 0, 1) := by decide +kernel
theorem d_Turtles_forward_15 : decode b_Turtles_forward 15 = .ok (.getfield 34, 3) := by decide +kernel
theorem d_Turtles_forward_18 : decode b_Turtles_forward 18 = .ok (.invokestatic 30, 3) := by decide +kernel
theorem d_Turtles_forward_21 : decode b_Turtles_forward 21 = .ok (.ifCond .ne 6, 3) := by decide +kernel
theorem d_Turtles_forward_24 : decode b_Turtles_forward 24 = .ok (.ldc 62, 2) := by decide +kernel
theorem d_Turtles_forward_26 : decode b_Turtles_forward 26 = .ok (.ireturn, 1) := by decide +kernel
theorem d_Turtles_forward_27 : decode b_Turtles_forward 27 = .ok (.aload_n 0, 1) := by decide +kernel
theorem d_Turtles_forward_28 : decode b_Turtles_forward 28 = .ok (.getfield 34, 3) := by decide +kernel
theorem d_Turtles_forward_31 : decode b_Turtles_forward 31 = .ok (.bipush 7, 2) := by decide +kernel
theorem d_Turtles_forward_33 : decode b_Turtles_forward 33 = .ok (.imul, 1) := by decide +kernel
theorem d_Turtles_forward_34 : decode b_Turtles_forward 34 = .ok (.istore_n 2, 1) := by decide +kernel
theorem d_Turtles_forward_35 : decode b_Turtles_forward 35 = .ok (.aload_n 0, 1) := by decide +kernel
theorem d_Turtles_forward_36 : decode b_Turtles_forward 36 = .ok (.getfield 11, 3) := by decide +kernel
theorem d_Turtles_forward_39 : decode b_Turtles_forward 39 = .ok (.iload_n 2, 1) := by decide +kernel
theorem d_Turtles_forward_40 : decode b_Turtles_forward 40 = .ok (.iconst 4, 1) := by decide +kernel
theorem d_Turtles_forward_41 : decode b_Turtles_forward 41 = .ok (.iadd, 1) := by decide +kernel
theorem d_Turtles_forward_42 : decode b_Turtles_forward 42 = .ok (.iaload, 1) := by decide +kernel
theorem d_Turtles_forward_43 : decode b_Turtles_forward 43 = .ok (.bipush 12, 2) := by decide +kernel
theorem d_Turtles_forward_45 : decode b_Turtles_forward 45 = .ok (.invokestatic 63, 3) := by decide +kernel
theorem d_Turtles_forward_48 : decode b_Turtles_forward 48 = .ok (.istore_n 3, 1) := by decide +kernel
theorem d_Turtles_forward_49 : decode b_Turtles_forward 49 = .ok (.iload_n 3, 1) := by decide +kernel
theorem d_Turtles_forward_50 : decode b_Turtles_forward 50 = .ok (.bipush 6, 2) := by decide +kernel
theorem d_Turtles_forward_52 : decode b_Turtles_forward 52 = .ok (.irem, 1) := by decide +kernel
theorem d_Turtles_forward_53 : decode b_Turtles_forward 53 = .ok (.istore 4, 2) := by decide +kernel
theorem d_Turtles_forward_55 : decode b_Turtles_forward 55 = .ok (.iload_n 3, 1) := by decide +kernel
theorem d_Turtles_forward_56 : decode b_Turtles_forward 56 = .ok (.bipush 6, 2) := by decide +kernel
theorem d_Turtles_forward_58 : decode b_Turtles_forward 58 = .ok (.if_icmp .ge 7, 3) := by decide +kernel
theorem d_Turtles_forward_61 : decode b_Turtles_forward 61 = .ok (.iload_n 1, 1) := by decide +kernel
theorem d_Turtles_forward_62 : decode b_Turtles_forward 62 = .ok (.goto 5, 3) := by decide +kernel
theorem d_Turtles_forward_65 : decode b_Turtles_forward 65 = .ok (.iload_n 1, 1) := by decide +kernel
theorem d_Turtles_forward_66 : decode b_Turtles_forward 66 = .ok (.ineg, 1) := by decide +kernel
theorem d_Turtles_forward_67 : decode b_Turtles_forward 67 = .ok (.istore 5, 2) := by decide +kernel
theorem d_Turtles_forward_69 : decode b_Turtles_forward 69 = .ok (.iconst 0, 1) := by decide +kernel
theorem d_Turtles_forward_70 : decode b_Turtles_forward 70 = .ok (.istore 6, 2) := by decide +kernel
theorem d_Turtles_forward_72 : decode b_Turtles_forward 72 = .ok (.iload 6, 2) := by decide +kernel
theorem d_Turtles_forward_74 : decode b_Turtles_forward 74 = .ok (.iconst 4, 1) := by decide +kernel
theorem d_Turtles_forward_75 : decode b_Turtles_forward 75 = .ok (.if_icmp .ge 81, 3) := by decide +kernel
theorem d_Turtles_forward_78 : decode b_Turtles_forward 78 = .ok (.aload_n 0, 1) := by decide +kernel
theorem d_Turtles_forward_79 : decode b_Turtles_forward 79 = .ok (.getfield 18, 3) := by decide +kernel
theorem d_Turtles_forward_82 : decode b_Turtles_forward 82 = .ok (.iload 6, 2) := by decide +kernel
theorem d_Turtles_forward_84 : decode b_Turtles_forward 84 = .ok (.aload_n 0, 1) := by decide +kernel
theorem d_Turtles_forward_85 : decode b_Turtles_forward 85 = .ok (.getfield 11, 3) := by decide +kernel
theorem d_Turtles_forward_88 : decode b_Turtles_forward 88 = .ok (.iload_n 2, 1) := by decide +kernel
theorem d_Turtles_forward_89 : decode b_Turtles_forward 89 = .ok (.iload 6, 2) := by decide +kernel
theorem d_Turtles_forward_91 : decode b_Turtles_forward 91 = .ok (.iadd, 1) := by decide +kernel
theorem d_Turtles_forward_92 : decode b_Turtles_forward 92 = .ok (.iaload, 1) := by decide +kernel
theorem d_Turtles_forward_93 : decode b_Turtles_forward 93 = .ok (.iastore, 1) := by decide +kernel
theorem d_Turtles_forward_94 : decode b_Turtles_forward 94 = .ok (.aload_n 0, 1) := by decide +kernel
theorem d_Turtles_forward_95 : decode b_Turtles_forward 95 = .ok (.getfield 21, 3) := by decide +kernel
theorem d_Turtles_forward_98 : decode b_Turtles_forward 98 = .ok (.iload 6, 2) := by decide +kernel
theorem d_Turtles_forward_100 : decode b_Turtles_forward 100 = .ok (.aload_n 0, 1) := by decide +kernel
theorem d_Turtles_forward_101 : decode b_Turtles_forward 101 = .ok (.getfield 18, 3) := by decide +kernel
theorem d_Turtles_forward_104 : decode b_Turtles_forward 104 = .ok (.iload 6, 2) := by decide +kernel
theorem d_Turtles_forward_106 : decode b_Turtles_forward 106 = .ok (.iaload, 1) := by decide +kernel
theorem d_Turtles_forward_107 : decode b_Turtles_forward 107 = .ok (.iload 5, 2) := by decide +kernel
theorem d_Turtles_forward_109 : decode b_Turtles_forward 109 = .ok (.getstatic 67, 3) := by decide +kernel
theorem d_Turtles_forward_112 : decode b_Turtles_forward 112 = .ok (.iload 4, 2) := by decide +kernel
theorem d_Turtles_forward_114 : decode b_Turtles_forward 114 = .ok (.iconst 4, 1) := by decide +kernel
theorem d_Turtles_forward_115 : decode b_Turtles_forward 115 = .ok (.imul, 1) := by decide +kernel
theorem d_Turtles_forward_116 : decode b_Turtles_forward 116 = .ok (.iload 6, 2) := by decide +kernel
theorem d_Turtles_forward_118 : decode b_Turtles_forward 118 = .ok (.iadd, 1) := by decide +kernel
theorem d_Turtles_forward_119 : decode b_Turtles_forward 119 = .ok (.iaload, 1) := by decide +kernel
theorem d_Turtles_forward_120 : decode b_Turtles_forward 120 = .ok (.imul, 1) := by decide +kernel
theorem d_Turtles_forward_121 : decode b_Turtles_forward 121 = .ok (.iadd, 1) := by decide +kernel
theorem d_Turtles_forward_122 : decode b_Turtles_forward 122 = .ok (.iastore, 1) := by decide +kernel
theorem d_Turtles_forward_123 : decode b_Turtles_forward 123 = .ok (.aload_n 0, 1) := by decide +kernel
theorem d_Turtles_forward_124 : decode b_Turtles_forward 124 = .ok (.getfield 21, 3) := by decide +kernel
theorem d_Turtles_forward_127 : decode b_Turtles_forward 127 = .ok (.iload 6, 2) := by decide +kernel
theorem d_Turtles_forward_129 : decode b_Turtles_forward 129 = .ok (.iaload, 1) := by decide +kernel
theorem d_Turtles_forward_130 : decode b_Turtles_forward 130 = .ok (.ldc 70, 2) := by decide +kernel
theorem d_Turtles_forward_132 : decode b_Turtles_forward 132 = .ok (.if_icmp .lt 15, 3) := by decide +kernel
theorem d_Turtles_forward_135 : decode b_Turtles_forward 135 = .ok (.aload_n 0, 1) := by decide +kernel
theorem d_Turtles_forward_136 : decode b_Turtles_forward 136 = .ok (.getfield 21, 3) := by decide +kernel
theorem d_Turtles_forward_139 : decode b_Turtles_forward 139 = .ok (.iload 6, 2) := by decide +kernel
theorem d_Turtles_forward_141 : decode b_Turtles_forward 141 = .ok (.iaload, 1) := by decide +kernel
theorem d_Turtles_forward_142 : decode b_Turtles_forward 142 = .ok (.ldc 71, 2) := by decide +kernel
theorem d_Turtles_forward_144 : decode b_Turtles_forward 144 = .ok (.if_icmp .le 6, 3) := by decide +kernel
theorem d_Turtles_forward_147 : decode b_Turtles_forward 147 = .ok (.ldc 72, 2) := by decide +kernel
theorem d_Turtles_forward_149 : decode b_Turtles_forward 149 = .ok (.ireturn, 1) := by decide +kernel
theorem d_Turtles_forward_150 : decode b_Turtles_forward 150 = .ok (.iinc 6 1, 3) := by decide +kernel
theorem d_Turtles_forward_153 : decode b_Turtles_forward 153 = .ok (.goto (-81), 3) := by decide +kernel
theorem d_Turtles_forward_156 : decode b_Turtles_forward 156 = .ok (.aload_n 0, 1) := by decide +kernel
theorem d_Turtles_forward_157 : decode b_Turtles_forward 157 = .ok (.getfield 11, 3) := by decide +kernel
theorem d_Turtles_forward_160 : decode b_Turtles_forward 160 = .ok (.iload_n 2, 1) := by decide +kernel
theorem d_Turtles_forward_161 : decode b_Turtles_forward 161 = .ok (.bipush 6, 2) := by decide +kernel
theorem d_Turtles_forward_163 : decode b_Turtles_forward 163 = .ok (.iadd, 1) := by decide +kernel
theorem d_Turtles_forward_164 : decode b_Turtles_forward 164 = .ok (.iaload, 1) := by decide +kernel
theorem d_Turtles_forward_165 : decode b_Turtles_forward 165 = .ok (.iconst 1, 1) := by decide +kernel
theorem d_Turtles_forward_166 : decode b_Turtles_forward 166 = .ok (.if_icmp .ne 17, 3) := by decide +kernel
theorem d_Turtles_forward_169 : decode b_Turtles_forward 169 = .ok (.aload_n 0, 1) := by decide +kernel
theorem d_Turtles_forward_170 : decode b_Turtles_forward 170 = .ok (.iload 4, 2) := by decide +kernel
theorem d_Turtles_forward_172 : decode b_Turtles_forward 172 = .ok (.aload_n 0, 1) := by decide +kernel
theorem d_Turtles_forward_173 : decode b_Turtles_forward 173 = .ok (.getfield 11, 3) := by decide +kernel
theorem d_Turtles_forward_176 : decode b_Turtles_forward 176 = .ok (.iload_n 2, 1) := by decide +kernel
theorem d_Turtles_forward_177 : decode b_Turtles_forward 177 = .ok (.iconst 5, 1) := by decide +kernel
theorem d_Turtles_forward_178 : decode b_Turtles_forward 178 = .ok (.iadd, 1) := by decide +kernel
theorem d_Turtles_forward_179 : decode b_Turtles_forward 179 = .ok (.iaload, 1) := by decide +kernel
theorem d_Turtles_forward_180 : decode b_Turtles_forward 180 = .ok (.invokevirtual 73, 3) := by decide +kernel
theorem d_Turtles_forward_183 : decode b_Turtles_forward 183 = .ok (.aload_n 0, 1) := by decide +kernel
theorem d_Turtles_forward_184 : decode b_Turtles_forward 184 = .ok (.getfield 21, 3) := by decide +kernel
theorem d_Turtles_forward_187 : decode b_Turtles_forward 187 = .ok (.iconst 0, 1) := by decide +kernel
theorem d_Turtles_forward_188 : decode b_Turtles_forward 188 = .ok (.aload_n 0, 1) := by decide +kernel
theorem d_Turtles_forward_189 : decode b_Turtles_forward 189 = .ok (.getfield 11, 3) := by decide +kernel
theorem d_Turtles_forward_192 : decode b_Turtles_forward 192 = .ok (.iload_n 2, 1) := by decide +kernel
theorem d_Turtles_forward_193 : decode b_Turtles_forward 193 = .ok (.iconst 4, 1) := by decide +kernel
theorem d_Turtles_forward_194 : decode b_Turtles_forward 194 = .ok (.invokestatic 77, 3) := by decide +kernel
theorem d_Turtles_forward_197 : decode b_Turtles_forward 197 = .ok (.ldc 83, 2) := by decide +kernel
theorem d_Turtles_forward_199 : decode b_Turtles_forward 199 = .ok (.ireturn, 1) := by decide +kernel
theorem lk_Turtles_73 : Cond.methodLink "TurtleWorld$Turtles" 73 ⟨"TurtleWorld$Turtles", "draw", "(II)V"⟩ ∈ tw_T := tw_i6 28 (by decide +kernel) (by decide +kernel)
theorem hd_Turtles_draw : y_Turtles_draw.cls ≠ "java/lang/invoke/MethodHandle" ∧ y_Turtles_draw.cls ≠ "java/lang/invoke/VarHandle" ∧ (parseMethodDescriptor y_Turtles_draw.desc).map (fun d => d.parameters.length) = some 2 := by decide +kernel
theorem in_Turtles_draw : Cond.instanceMethod ⟨"TurtleWorld$Turtles", "draw", "(II)V"⟩ ∈ tw_T := tw_i6 30 (by decide +kernel) (by decide +kernel)
theorem sel_Turtles_draw : Cond.selects "TurtleWorld$Turtles" ⟨"TurtleWorld$Turtles", "draw", "(II)V"⟩ ⟨"TurtleWorld$Turtles", "draw", "(II)V"⟩ ∈ tw_T := tw_inS 56 (by decide +kernel) (by decide +kernel)
theorem lk_Turtles_67 : Cond.fieldLink "TurtleWorld$Turtles" 67 "TurtleWorld$Turtles" "STEPS" "[I" ∈ tw_T := tw_i6 23 (by decide +kernel) (by decide +kernel)
theorem lk_Turtles_70 : Cond.constant "TurtleWorld$Turtles" 70 (-1000000) ∈ tw_T := tw_i6 25 (by decide +kernel) (by decide +kernel)
theorem lk_Turtles_72 : Cond.constant "TurtleWorld$Turtles" 72 (-2147483641) ∈ tw_T := tw_i6 27 (by decide +kernel) (by decide +kernel)
theorem lk_Turtles_71 : Cond.constant "TurtleWorld$Turtles" 71 1000000 ∈ tw_T := tw_i6 26 (by decide +kernel) (by decide +kernel)
def m_Reader_takeName_b18 (n : Nat) (g : Nat → Nat) (i : Nat → Int32) (a : Nat → Nat → Int32) (v2 : Int32) : Option ((Nat → Int32) × (Nat → Nat → Int32) × Int32) := ob (m_Reader_blame n g i a (8 : Int32) v2) (fun i_2 a_3 r_4 => some (i_2, a_3, (0 : Int32)))
set_option maxHeartbeats 4000000 in
set_option maxRecDepth 100000 in
theorem lb_Reader_takeName_18 (l : Launch) (dC : Nat → ClassId) (dI : Nat → Nat → Nat) (cI : ClassId) (adK adV adA u o g : Nat → Nat) (n : Nat) {p : Program} {e : Env} {s : State} {m : MethodId} {args : Array Value} {below : List Frame} {meth : Method} {c : Code} {A : Nat → Prop} (hx : p.tables.exec = Jvm.exec) (hb : c.code = b_Reader_takeName) (hml : c.maxLocals = 3) (hown : s.vm.findClass R_Reader = some m.cls) (hts : ∀ w ∈ w_Reader_takeName, w.before args s = true) (hK : va_K (dC, dI) classes [(cI, .int)] s) (hE : tw_E adK adV adA A s s.heap) (hA : ∀ q : Nat, s.heap.size ≤ q → A q) (hr : meth.sig.returnType = none) (hlocks : meth.locks = false) {i2 : Nat → Int32} {a2 : Nat → Nat → Int32} {r2 : Int32} (i : Nat → Int32) (a : Nat → Nat → Int32) (v2 : Int32) (hm : m_Reader_takeName_b18 n g i a v2 = some (i2, a2, r2)) : ∀ (H : Heap) (locs : List Loc) (ls : Array Slot), va_P (dC, dI) classes (TW cI u o i a g) H → va_D A (TW cI u o i a g) → va_S A s.heap H locs → lv_has ls 3 [(0, .ref ((u 7))), (2, .int v2)] → W p l e ({ frames := 4, cells := 0, slots := 0, locals := 92 } : Room) s m args below meth c H locs 0 0 (MQ below (va_Qv xV (xB dC dI cI u o g i2 a2 A) A) args s 0 0 A) (F0 m 18 ls []) := by
  have htt : ∀ w ∈ tw_T, w.before _ s = true := fun w h => hts w (List.mem_cons_of_mem _ h)
  intro H locs ls hP hD hS hl
  rw [m_Reader_takeName_b18] at hm
  refine lv_aload_n hx hb d_Reader_takeName_18 rfl (lv_at hl 0 rfl) ?_
  refine lv_bipush (v := 8) hx hb d_Reader_takeName_19 (by decide) ?_
  refine lv_iload_n hx hb d_Reader_takeName_21 rfl (lv_at hl 1 rfl) ?_
  obtain ⟨i_2, a_3, r_4, h_1, hm⟩ := ob_some hm
  have hFc := x_free hD hS hA
  refine va_callv (va_runV (As := [.int 8, .int v2]) (rest := []) ⟨hx, hb, hml, hown, hts⟩ (x_Reader_blame l dC dI cI adK adV adA u o g H.size n h_1) (cwV 2 hts (tw_GV tw_cons cw_Reader_blame lk_Reader_54 in_Reader_blame sel_Reader_blame ini_Reader) rfl rfl rfl ⟨rfl, hd_Reader_blame⟩ ⟨Nat.le_of_ble_eq_true rfl, Nat.le_of_ble_eq_true rfl⟩) (xpV hK hP hD hS hE hFc xo_7 rfl) rfl rfl hl.1 rfl (lv_room (Nat.le_of_ble_eq_true rfl)) d_Reader_takeName_22 ⟨Nat.le_of_ble_eq_true rfl, Nat.le_of_ble_eq_true rfl⟩) hS (fun q _ h => hFc q h) hFc (fun u9 t9 H locs ht hvm e9 hB hz1 hk1 hS => ?_)
  obtain ⟨hP, hD⟩ := x_aft hB ht hFc
  clear hFc hk1 hz1 hvm hB ht
  obtain ⟨e1i, e1a, e3⟩ := re3 hm
  obtain ⟨hP, hD⟩ := x_eq e1i e1a hP hD
  exact W.vret hx hb hr (fun t9 ht hW => ⟨⟨(), rfl, trivial, by rw [ht]; exact hP, hD⟩, hS.F ht⟩) hS.2.2 d_Reader_takeName_25
def m_Reader_takeName_b44 (n : Nat) (g : Nat → Nat) (i : Nat → Int32) (a : Nat → Nat → Int32) (v1 : Int32) (v2 : Int32) : Option ((Nat → Int32) × (Nat → Nat → Int32) × Int32) := if (((i 15) + (i 34))) ≤ ((40 : Int32)) then if ((200 : Int32)) ≤ ((i 33)) then some (i, a, (0 : Int32)) else ck ((i 33)) 200 (ob1 (sv a 34 (i 33).toNatClampNeg v1 : Nat → Nat → Int32) (fun a_4 => ob1 (upd i 32 2 : Nat → Int32) (fun i_5 => some (i_5, a_4, (0 : Int32))))) else ob (m_Reader_blame n g i a (11 : Int32) v2) (fun i_7 a_8 r_9 => some (i_7, a_8, (0 : Int32)))
set_option maxHeartbeats 4000000 in
set_option maxRecDepth 100000 in
theorem lb_Reader_takeName_44 (l : Launch) (dC : Nat → ClassId) (dI : Nat → Nat → Nat) (cI : ClassId) (adK adV adA u o g : Nat → Nat) (n : Nat) {p : Program} {e : Env} {s : State} {m : MethodId} {args : Array Value} {below : List Frame} {meth : Method} {c : Code} {A : Nat → Prop} (hx : p.tables.exec = Jvm.exec) (hb : c.code = b_Reader_takeName) (hml : c.maxLocals = 3) (hown : s.vm.findClass R_Reader = some m.cls) (hts : ∀ w ∈ w_Reader_takeName, w.before args s = true) (hK : va_K (dC, dI) classes [(cI, .int)] s) (hE : tw_E adK adV adA A s s.heap) (hA : ∀ q : Nat, s.heap.size ≤ q → A q) (hr : meth.sig.returnType = none) (hlocks : meth.locks = false) {i2 : Nat → Int32} {a2 : Nat → Nat → Int32} {r2 : Int32} (i : Nat → Int32) (a : Nat → Nat → Int32) (v1 : Int32) (v2 : Int32) (hm : m_Reader_takeName_b44 n g i a v1 v2 = some (i2, a2, r2)) : ∀ (H : Heap) (locs : List Loc) (ls : Array Slot), va_P (dC, dI) classes (TW cI u o i a g) H → va_D A (TW cI u o i a g) → va_S A s.heap H locs → lv_has ls 3 [(0, .ref ((u 7))), (1, .int v1), (2, .int v2)] → W p l e ({ frames := 4, cells := 0, slots := 0, locals := 92 } : Room) s m args below meth c H locs 0 0 (MQ below (va_Qv xV (xB dC dI cI u o g i2 a2 A) A) args s 0 0 A) (F0 m 44 ls []) := by
  have htt : ∀ w ∈ tw_T, w.before _ s = true := fun w h => hts w (List.mem_cons_of_mem _ h)
  intro H locs ls hP hD hS hl
  rw [m_Reader_takeName_b44] at hm
  refine lv_aload_n hx hb d_Reader_takeName_44 rfl (lv_at hl 0 rfl) ?_
  refine va_get (D := (dC, dI)) (ci := 7) (v := .ref ((u 4))) (C := R_Reader) (T := F_Reader) (N := 19) hx hb htt iw_Reader hown hK hP 7 xo_7 rfl 1 (Nat.le_of_ble_eq_true rfl) (htt _ lk_Reader_34) (fun _ h9 => h9) xg_7_1 d_Reader_takeName_45 ?_
  refine va_get (D := (dC, dI)) (ci := 4) (v := .int (i 15)) (C := R_Procedures) (T := F_Procedures) (N := 8) hx hb htt iw_Procedures hown hK hP 4 xo_4 rfl 4 (Nat.le_of_ble_eq_true rfl) (htt _ lk_Reader_159) (fun _ h9 => h9) xg_4_4 d_Reader_takeName_48 ?_
  refine lv_aload_n hx hb d_Reader_takeName_51 rfl (lv_at hl 0 rfl) ?_
  refine va_get (D := (dC, dI)) (ci := 7) (v := .int (i 34)) (C := R_Reader) (T := F_Reader) (N := 19) hx hb htt iw_Reader hown hK hP 7 xo_7 rfl 18 (Nat.le_of_ble_eq_true rfl) (htt _ lk_Reader_87) (fun _ h9 => h9) xg_7_18 d_Reader_takeName_52 ?_
  refine lv_iadd hx hb d_Reader_takeName_55 ?_
  refine lv_bipush (v := 40) hx hb d_Reader_takeName_56 (by decide) ?_
  refine lv_icmp_le (tgt := 71) hx hb d_Reader_takeName_58 (by decide) (fun c_1 => ?_) (fun c_1 => ?_)
  · replace hm := if_t c_1 hm
    refine lv_aload_n hx hb d_Reader_takeName_71 rfl (lv_at hl 0 rfl) ?_
    refine va_get (D := (dC, dI)) (ci := 7) (v := .int (i 33)) (C := R_Reader) (T := F_Reader) (N := 19) hx hb htt iw_Reader hown hK hP 7 xo_7 rfl 17 (Nat.le_of_ble_eq_true rfl) (htt _ lk_Reader_84) (fun _ h9 => h9) xg_7_17 d_Reader_takeName_72 ?_
    refine lv_sipush (v := 200) hx hb d_Reader_takeName_75 (by decide) ?_
    refine lv_icmp_ge (tgt := 96) hx hb d_Reader_takeName_78 (by decide) (fun c_2 => ?_) (fun c_2 => ?_)
    · replace hm := if_t c_2 hm
      obtain ⟨e1i, e1a, e3⟩ := re3 hm
      obtain ⟨hP, hD⟩ := x_eq e1i e1a hP hD
      exact W.vret hx hb hr (fun t9 ht hW => ⟨⟨(), rfl, trivial, by rw [ht]; exact hP, hD⟩, hS.F ht⟩) hS.2.2 d_Reader_takeName_96
    · replace hm := if_f c_2 hm
      refine lv_aload_n hx hb d_Reader_takeName_81 rfl (lv_at hl 0 rfl) ?_
      refine va_get (D := (dC, dI)) (ci := 7) (v := .ref ((u 44))) (C := R_Reader) (T := F_Reader) (N := 19) hx hb htt iw_Reader hown hK hP 7 xo_7 rfl 14 (Nat.le_of_ble_eq_true rfl) (htt _ lk_Reader_21) (fun _ h9 => h9) xg_7_14 d_Reader_takeName_82 ?_
      refine lv_aload_n hx hb d_Reader_takeName_85 rfl (lv_at hl 0 rfl) ?_
      refine va_get (D := (dC, dI)) (ci := 7) (v := .int (i 33)) (C := R_Reader) (T := F_Reader) (N := 19) hx hb htt iw_Reader hown hK hP 7 xo_7 rfl 17 (Nat.le_of_ble_eq_true rfl) (htt _ lk_Reader_84) (fun _ h9 => h9) xg_7_17 d_Reader_takeName_86 ?_
      refine lv_iload_n hx hb d_Reader_takeName_89 rfl (lv_at hl 1 rfl) ?_
      obtain ⟨h_3, hm⟩ := ck_some hm
      refine va_iast hx hb hK hP hD hS 46 0 twA_34 rfl h_3 d_Reader_takeName_90 (fun H locs hP hD hS => ?_)
      obtain ⟨a_4, ea_4⟩ : ∃ y9 : Nat → Nat → Int32, y9 = sv a 34 (i 33).toNatClampNeg v1 := ⟨_, rfl⟩
      replace hm := ob1_at ea_4 hm
      obtain ⟨hP, hD⟩ := xv_34 ea_4 hP hD
      refine lv_aload_n hx hb d_Reader_takeName_91 rfl (lv_at hl 0 rfl) ?_
      refine lv_iconst (v := 2) hx hb d_Reader_takeName_92 (by decide) ?_
      refine va_put (D := (dC, dI)) (ci := 7) (v := .int 2) (ty := .int) (C := R_Reader) (T := F_Reader) (N := 19) hx hb htt iw_Reader t_Reader t_Reader_ok n_Reader hown hK hP hD hS 7 xo_7 rfl 13 (Nat.le_of_ble_eq_true rfl) (htt _ lk_Reader_72) (fun _ h9 => h9) rfl (by decide +kernel) rfl rfl xl_7_13 d_Reader_takeName_93 (fun H locs hP hD hS => ?_)
      obtain ⟨i_5, ei_5⟩ : ∃ y9 : Nat → Int32, y9 = upd i 32 2 := ⟨_, rfl⟩
      replace hm := ob1_at ei_5 hm
      obtain ⟨hP, hD⟩ := xw_32 ei_5 hP hD
      obtain ⟨e1i, e1a, e3⟩ := re3 hm
      obtain ⟨hP, hD⟩ := x_eq e1i e1a hP hD
      exact W.vret hx hb hr (fun t9 ht hW => ⟨⟨(), rfl, trivial, by rw [ht]; exact hP, hD⟩, hS.F ht⟩) hS.2.2 d_Reader_takeName_96
  · replace hm := if_f c_1 hm
    refine lv_aload_n hx hb d_Reader_takeName_61 rfl (lv_at hl 0 rfl) ?_
    refine lv_bipush (v := 11) hx hb d_Reader_takeName_62 (by decide) ?_
    refine lv_iload_n hx hb d_Reader_takeName_64 rfl (lv_at hl 2 rfl) ?_
    obtain ⟨i_7, a_8, r_9, h_6, hm⟩ := ob_some hm
    have hFc := x_free hD hS hA
    refine va_callv (va_runV (As := [.int 11, .int v2]) (rest := []) ⟨hx, hb, hml, hown, hts⟩ (x_Reader_blame l dC dI cI adK adV adA u o g H.size n h_6) (cwV 2 hts (tw_GV tw_cons cw_Reader_blame lk_Reader_54 in_Reader_blame sel_Reader_blame ini_Reader) rfl rfl rfl ⟨rfl, hd_Reader_blame⟩ ⟨Nat.le_of_ble_eq_true rfl, Nat.le_of_ble_eq_true rfl⟩) (xpV hK hP hD hS hE hFc xo_7 rfl) rfl rfl hl.1 rfl (lv_room (Nat.le_of_ble_eq_true rfl)) d_Reader_takeName_65 ⟨Nat.le_of_ble_eq_true rfl, Nat.le_of_ble_eq_true rfl⟩) hS (fun q _ h => hFc q h) hFc (fun u9 t9 H locs ht hvm e9 hB hz1 hk1 hS => ?_)
    obtain ⟨hP, hD⟩ := x_aft hB ht hFc
    clear hFc hk1 hz1 hvm hB ht
    refine lv_goto (tgt := 96) hx hb d_Reader_takeName_68 (by decide) ?_
    obtain ⟨e1i, e1a, e3⟩ := re3 hm
    obtain ⟨hP, hD⟩ := x_eq e1i e1a hP hD
    exact W.vret hx hb hr (fun t9 ht hW => ⟨⟨(), rfl, trivial, by rw [ht]; exact hP, hD⟩, hS.F ht⟩) hS.2.2 d_Reader_takeName_96
def m_Reader_takeName (n : Nat) (g : Nat → Nat) (i : Nat → Int32) (a : Nat → Nat → Int32) (v1 : Int32) (v2 : Int32) : Option ((Nat → Int32) × (Nat → Nat → Int32) × Int32) := ob0 (m_Heap_isWord n v1) (fun r_2 => if r_2 = ((0 : Int32)) then m_Reader_takeName_b18 n g i a v2 else ob0 (m_Heap_meaning n g i a v1) (fun r_5 => if r_5 = ((0 : Int32)) then ob0 (m_Reader_isNew n g i a v1) (fun r_8 => if r_8 = ((0 : Int32)) then m_Reader_takeName_b44 n g i a v1 v2 else ob1 ((i 34) + 1 : Int32) (fun x_10 => ob1 (upd i 34 x_10 : Nat → Int32) (fun i_11 => m_Reader_takeName_b44 n g i_11 a v1 v2))) else m_Reader_takeName_b18 n g i a v2))
set_option maxHeartbeats 4000000 in
set_option maxRecDepth 100000 in
theorem x_Reader_takeName (l : Launch) (dC : Nat → ClassId) (dI : Nat → Nat → Nat) (cI : ClassId) (adK adV adA u o g : Nat → Nat) (sz : Nat) (n : Nat) {i : Nat → Int32} {a : Nat → Nat → Int32} {v1 : Int32} {v2 : Int32} {i2 : Nat → Int32} {a2 : Nat → Nat → Int32} {r2 : Int32} (hm : m_Reader_takeName n g i a v1 v2 = some (i2, a2, r2)) : Met l y_Reader_takeName w_Reader_takeName ({ frames := 4, cells := 0, slots := 0, locals := 92 } : Room) (va_Pc [.ref ((u 7)), .int v1, .int v2] (xE dC dI cI adK adV adA u o g i a sz)) (va_Qv xV (xB dC dI cI u o g i2 a2 (va_A (TW cI u o i a g) sz)) (va_A (TW cI u o i a g) sz)) 0 0 ((va_A (TW cI u o i a g) sz)) := by
  refine Met.ofW (cc := b_Reader_takeName) (maxL := 3) (ret := none) (by decide) rfl ?_
  intro p e s m args below meth c s₁ B hml hv
  obtain ⟨rfl, hsz, hP, hK, hE, hD0⟩ := hv
  have hx := B.exec
  have hb := B.bytes
  have hr := B.returns
  have hts := atoms_spec (ws := w_Reader_takeName) B.pre
  have htt : ∀ w ∈ tw_T, w.before _ s = true := fun w h => hts w (List.mem_cons_of_mem _ h)
  have hown : s.vm.findClass R_Reader = some m.cls := findClass_of_methodNamed B.named
  have hlocks := B.notSynchronized
  subst hsz
  have hD := hD0.self (sz := s.heap.size)
  generalize hAe : (va_A (TW cI u o i a g) s.heap.size) = A at hD hE ⊢
  have hA : ∀ q : Nat, s.heap.size ≤ q → A q := fun q h => by rw [← hAe]; exact Or.inr h
  have hS : va_S A s.heap s.heap [] := va_S.rf
  have hl := lv_entry ([.ref ((u 7)), .int v1, .int v2]) (n := 3) (Nat.le_of_ble_eq_true rfl)
  rw [lg_entry_eq]
  generalize (lg_sl ([.ref ((u 7)), .int v1, .int v2]) ++ List.replicate (3 - (lg_sl ([.ref ((u 7)), .int v1, .int v2])).length) Slot.unset).toArray = ls at hl ⊢
  have hl : lv_has ls 3 [(0, .ref ((u 7))), (1, .int v1), (2, .int v2)] := hl
  rw [m_Reader_takeName] at hm
  refine lv_iload_n hx hb d_Reader_takeName_0 rfl (lv_at hl 1 rfl) ?_
  obtain ⟨r_2, h_1, hm⟩ := ob0_some hm
  have hFc := x_free0 hS hA
  refine va_calli (va_runS (As := [.int v1]) (rest := []) ⟨hx, hb, hml, hown, hts⟩ (x_Heap_isWord l s.heap.size n h_1) (va_cwS 1 hts (tw_GS tw_cons cw_Heap_isWord lk_Reader_138 st_Heap_isWord ini_Heap) rfl rfl rfl hd_Heap_isWord ⟨Nat.le_of_ble_eq_true rfl, Nat.le_of_ble_eq_true rfl⟩) xpS0 rfl rfl hl.1 rfl (lv_room (Nat.le_of_ble_eq_true rfl)) d_Reader_takeName_1 ⟨Nat.le_of_ble_eq_true rfl, Nat.le_of_ble_eq_true rfl⟩) hS (fun q _ h => hFc q h) hFc (fun r9 u9 t9 H locs ht hvm e9 hB hz1 hk1 hS => ?_)
  have e9 : r_2 = r9 := e9
  subst e9
  replace hP := x_keep hP hk1
  clear hFc hk1 hz1 hvm hB ht
  refine lv_if_eq (tgt := 18) hx hb d_Reader_takeName_4 (by decide) (fun c_3 => ?_) (fun c_3 => ?_)
  · replace hm := if_t c_3 hm
    exact lb_Reader_takeName_18 l dC dI cI adK adV adA u o g n hx hb hml hown hts hK hE hA hr hlocks _ _ _ hm _ _ _ hP hD hS (lv_sub hl [0, 2] rfl)
  · replace hm := if_f c_3 hm
    refine lv_aload_n hx hb d_Reader_takeName_7 rfl (lv_at hl 0 rfl) ?_
    refine va_get (D := (dC, dI)) (ci := 7) (v := .ref ((u 1))) (C := R_Reader) (T := F_Reader) (N := 19) hx hb htt iw_Reader hown hK hP 7 xo_7 rfl 0 (Nat.le_of_ble_eq_true rfl) (htt _ lk_Reader_30) (fun _ h9 => h9) xg_7_0 d_Reader_takeName_8 ?_
    refine lv_iload_n hx hb d_Reader_takeName_11 rfl (lv_at hl 1 rfl) ?_
    obtain ⟨r_5, h_4, hm⟩ := ob0_some hm
    have hFc := x_free0 hS hA
    refine va_calli (va_runV (As := [.int v1]) (rest := []) ⟨hx, hb, hml, hown, hts⟩ (x_Heap_meaning l dC dI cI adK adV adA u o g H.size n h_4) (cwV 1 hts (tw_GV tw_cons cw_Heap_meaning lk_Reader_141 in_Heap_meaning sel_Heap_meaning ini_Heap) rfl rfl rfl ⟨rfl, hd_Heap_meaning⟩ ⟨Nat.le_of_ble_eq_true rfl, Nat.le_of_ble_eq_true rfl⟩) (xpVr hK hP hS hE hFc xo_1 rfl) rfl rfl hl.1 rfl (lv_room (Nat.le_of_ble_eq_true rfl)) d_Reader_takeName_12 ⟨Nat.le_of_ble_eq_true rfl, Nat.le_of_ble_eq_true rfl⟩) hS (fun q _ h => hFc q h) hFc (fun r9 u9 t9 H locs ht hvm e9 hB hz1 hk1 hS => ?_)
    have e9 : r_5 = r9 := e9
    subst e9
    replace hP := x_keep hP hk1
    clear hFc hk1 hz1 hvm hB ht
    refine lv_if_eq (tgt := 26) hx hb d_Reader_takeName_15 (by decide) (fun c_6 => ?_) (fun c_6 => ?_)
    · replace hm := if_t c_6 hm
      refine lv_aload_n hx hb d_Reader_takeName_26 rfl (lv_at hl 0 rfl) ?_
      refine lv_iload_n hx hb d_Reader_takeName_27 rfl (lv_at hl 1 rfl) ?_
      obtain ⟨r_8, h_7, hm⟩ := ob0_some hm
      have hFc := x_free0 hS hA
      refine va_calli (va_runV (As := [.int v1]) (rest := []) ⟨hx, hb, hml, hown, hts⟩ (x_Reader_isNew l dC dI cI adK adV adA u o g H.size n h_7) (cwV 1 hts (tw_GV tw_cons cw_Reader_isNew lk_Reader_156 in_Reader_isNew sel_Reader_isNew ini_Reader) rfl rfl rfl ⟨rfl, hd_Reader_isNew⟩ ⟨Nat.le_of_ble_eq_true rfl, Nat.le_of_ble_eq_true rfl⟩) (xpVr hK hP hS hE hFc xo_7 rfl) rfl rfl hl.1 rfl (lv_room (Nat.le_of_ble_eq_true rfl)) d_Reader_takeName_28 ⟨Nat.le_of_ble_eq_true rfl, Nat.le_of_ble_eq_true rfl⟩) hS (fun q _ h => hFc q h) hFc (fun r9 u9 t9 H locs ht hvm e9 hB hz1 hk1 hS => ?_)
      have e9 : r_8 = r9 := e9
      subst e9
      replace hP := x_keep hP hk1
      clear hFc hk1 hz1 hvm hB ht
      refine lv_if_eq (tgt := 44) hx hb d_Reader_takeName_31 (by decide) (fun c_9 => ?_) (fun c_9 => ?_)
      · replace hm := if_t c_9 hm
        exact lb_Reader_takeName_44 l dC dI cI adK adV adA u o g n hx hb hml hown hts hK hE hA hr hlocks _ _ _ _ hm _ _ _ hP hD hS (lv_sub hl [0, 1, 2] rfl)
      · replace hm := if_f c_9 hm
        refine lv_aload_n hx hb d_Reader_takeName_34 rfl (lv_at hl 0 rfl) ?_
        refine lv_dup hx hb d_Reader_takeName_35 rfl ?_
        refine va_get (D := (dC, dI)) (ci := 7) (v := .int (i 34)) (C := R_Reader) (T := F_Reader) (N := 19) hx hb htt iw_Reader hown hK hP 7 xo_7 rfl 18 (Nat.le_of_ble_eq_true rfl) (htt _ lk_Reader_87) (fun _ h9 => h9) xg_7_18 d_Reader_takeName_36 ?_
        refine lv_iconst (v := 1) hx hb d_Reader_takeName_39 (by decide) ?_
        refine lv_iadd hx hb d_Reader_takeName_40 ?_
        refine lv_topi (fun x_10 ex_10 => ?_)
        replace hm := ob1_at ex_10 hm
        refine va_put (D := (dC, dI)) (ci := 7) (v := .int x_10) (ty := .int) (C := R_Reader) (T := F_Reader) (N := 19) hx hb htt iw_Reader t_Reader t_Reader_ok n_Reader hown hK hP hD hS 7 xo_7 rfl 18 (Nat.le_of_ble_eq_true rfl) (htt _ lk_Reader_87) (fun _ h9 => h9) rfl (by decide +kernel) rfl rfl xl_7_18 d_Reader_takeName_41 (fun H locs hP hD hS => ?_)
        obtain ⟨i_11, ei_11⟩ : ∃ y9 : Nat → Int32, y9 = upd i 34 x_10 := ⟨_, rfl⟩
        replace hm := ob1_at ei_11 hm
        obtain ⟨hP, hD⟩ := xw_34 ei_11 hP hD
        exact lb_Reader_takeName_44 l dC dI cI adK adV adA u o g n hx hb hml hown hts hK hE hA hr hlocks _ _ _ _ hm _ _ _ hP hD hS (lv_sub hl [0, 1, 2] rfl)
    · replace hm := if_f c_6 hm
      exact lb_Reader_takeName_18 l dC dI cI adK adV adA u o g n hx hb hml hown hts hK hE hA hr hlocks _ _ _ hm _ _ _ hP hD hS (lv_sub hl [0, 2] rfl)

def m_Reader_closeBody_b57 (n : Nat) (i : Nat → Int32) (a : Nat → Nat → Int32) (g : Nat → Nat) (v1 : Int32) : Option ((Nat → Int32) × (Nat → Nat → Int32) × (Nat → Nat) × (Nat × Nat) × Int32) := ob (m_Reader_blame n g i a (6 : Int32) v1) (fun i_2 a_3 r_4 => some (i_2, a_3, g, (0, 0), (0 : Int32)))
set_option maxHeartbeats 4000000 in
set_option maxRecDepth 100000 in
theorem lb_Reader_closeBody_57 (l : Launch) (dC : Nat → ClassId) (dI : Nat → Nat → Nat) (cI : ClassId) (adK adV adA u : Nat → Nat) (n : Nat) {p : Program} {e : Env} {s : State} {m : MethodId} {args : Array Value} {below : List Frame} {meth : Method} {c : Code} {A : Nat → Prop} (hx : p.tables.exec = Jvm.exec) (hb : c.code = b_Reader_closeBody) (hml : c.maxLocals = 3) (hown : s.vm.findClass R_Reader = some m.cls) (hts : ∀ w ∈ w_Reader_closeBody, w.before args s = true) (hK : va_K (dC, dI) classes [(cI, .int)] s) (hE : tw_E adK adV adA A s s.heap) (hA : ∀ q : Nat, s.heap.size ≤ q → A q) (hr : meth.sig.returnType = none) (hlocks : meth.locks = false) {mc ms : Nat} {i2 : Nat → Int32} {a2 : Nat → Nat → Int32} {g2 : Nat → Nat} {r2 : Int32} (i : Nat → Int32) (a : Nat → Nat → Int32) (g : Nat → Nat) (v1 : Int32) (k2 : Nat × Nat) (hm : m_Reader_closeBody_b57 n i a g v1 = some (i2, a2, g2, k2, r2)) : ∀ (o : Nat → Nat) (kc ks : Nat), kc + k2.1 = mc → ks + k2.2 = ms → ∀ (H : Heap) (locs : List Loc) (ls : Array Slot), va_P (dC, dI) classes (TW cI u o i a g) H → va_D A (TW cI u o i a g) → va_S A s.heap H locs → lv_has ls 3 [(0, .ref ((u 7))), (1, .int v1)] → W p l e ({ frames := 5, cells := mc, slots := ms, locals := 132 } : Room) s m args below meth c H locs kc ks (MQ below (va_Qv xVg (xBg dC dI cI u g2 i2 a2 A) A) args s mc ms A) (F0 m 57 ls []) := by
  have htt : ∀ w ∈ tw_T, w.before _ s = true := fun w h => hts w (List.mem_cons_of_mem _ h)
  intro o kc ks hkc hks H locs ls hP hD hS hl
  rw [m_Reader_closeBody_b57] at hm
  refine lv_aload_n hx hb d_Reader_closeBody_57 rfl (lv_at hl 0 rfl) ?_
  refine lv_bipush (v := 6) hx hb d_Reader_closeBody_58 (by decide) ?_
  refine lv_iload_n hx hb d_Reader_closeBody_60 rfl (lv_at hl 1 rfl) ?_
  obtain ⟨i_2, a_3, r_4, h_1, hm⟩ := ob_some hm
  have hFc := x_free hD hS hA
  refine xg_callv (va_runV (As := [.int 6, .int v1]) (rest := []) ⟨hx, hb, hml, hown, hts⟩ (x_Reader_blame l dC dI cI adK adV adA u o g H.size n h_1) (cwV 2 hts (tw_GV tw_cons cw_Reader_blame lk_Reader_54 in_Reader_blame sel_Reader_blame ini_Reader) rfl rfl rfl ⟨rfl, hd_Reader_blame⟩ ⟨Nat.le_of_ble_eq_true rfl, Nat.le_of_ble_eq_true rfl⟩) (xpV hK hP hD hS hE hFc xo_7 rfl) rfl rfl hl.1 rfl (lv_room (Nat.le_of_ble_eq_true rfl)) d_Reader_closeBody_61 ⟨show kc + 0 ≤ mc by omega, show ks + 0 ≤ ms by omega⟩) hS (fun q _ h => hFc q h) hFc (fun kc_5 ks_6 u9 t9 H locs ekc eks ht hvm e9 hB hz1 hk1 hS => ?_)
  replace hkc : kc_5 + k2.1 = mc := by omega
  replace hks : ks_6 + k2.2 = ms := by omega
  clear ekc eks
  obtain ⟨hP, hD⟩ := x_aft hB ht hFc
  clear hFc hk1 hz1 hvm hB ht
  refine lv_goto (tgt := 87) hx hb d_Reader_closeBody_64 (by decide) ?_
  obtain ⟨e1, e2, e4, e5, e6, e3⟩ := re5 hm
  obtain ⟨hP, hD⟩ := x_eqg e1 e2 e4 hP hD
  refine W.widen (k := mc) (n := ms) (show kc_5 ≤ mc by omega) (show ks_6 ≤ ms by omega) ?_
  exact W.vret hx hb hr (fun t9 ht hW => ⟨⟨o, rfl, trivial, by rw [ht]; exact hP, hD⟩, hS.F ht⟩) hS.2.2 d_Reader_closeBody_87
def m_Reader_closeBody (n : Nat) (g : Nat → Nat) (i : Nat → Int32) (a : Nat → Nat → Int32) (v1 : Int32) : Option ((Nat → Int32) × (Nat → Nat → Int32) × (Nat → Nat) × (Nat × Nat) × Int32) := obG (m_Heap_newListOf_a32 n g i a (0 : Int32) (i 28)) (fun i_2 a_3 g_4 r_6 => ob1 (upd i_2 28 0 : Nat → Int32) (fun i_11 => ob1 (upd i_11 32 0 : Nat → Int32) (fun i_12 => if ((200 : Int32)) ≤ ((i_12 33)) then m_Reader_closeBody_b57 n i_12 a_3 g_4 v1 else if r_6 = ((-2147483648 : Int32)) then m_Reader_closeBody_b57 n i_12 a_3 g_4 v1 else ck ((i_12 33)) 200 (if ((a_3 35 (i_12 33).toNatClampNeg)) = ((-2147483648 : Int32)) then m_Reader_closeBody_b57 n i_12 a_3 g_4 v1 else ck ((i_12 33)) 200 (ob1 (sv a_3 36 (i_12 33).toNatClampNeg r_6 : Nat → Nat → Int32) (fun a_18 => ob1 ((i_12 33) + 1 : Int32) (fun x_19 => ob1 (upd i_12 33 x_19 : Nat → Int32) (fun i_20 => some (i_20, a_18, g_4, (0, 0), (0 : Int32))))))))))
set_option maxHeartbeats 4000000 in
set_option maxRecDepth 100000 in
theorem x_Reader_closeBody (l : Launch) (dC : Nat → ClassId) (dI : Nat → Nat → Nat) (cI : ClassId) (adK adV adA u o g : Nat → Nat) (sz : Nat) (n : Nat) {i : Nat → Int32} {a : Nat → Nat → Int32} {v1 : Int32} {i2 : Nat → Int32} {a2 : Nat → Nat → Int32} {g2 : Nat → Nat} {k2 : Nat × Nat} {r2 : Int32} (hm : m_Reader_closeBody n g i a v1 = some (i2, a2, g2, k2, r2)) : Met l y_Reader_closeBody w_Reader_closeBody ({ frames := 5, cells := k2.1, slots := k2.2, locals := 132 } : Room) (va_Pc [.ref ((u 7)), .int v1] (xE dC dI cI adK adV adA u o g i a sz)) (va_Qv xVg (xBg dC dI cI u g2 i2 a2 (va_A (TW cI u o i a g) sz)) (va_A (TW cI u o i a g) sz)) k2.1 k2.2 ((va_A (TW cI u o i a g) sz)) := by
  refine Met.ofW (cc := b_Reader_closeBody) (maxL := 3) (ret := none) (by decide) rfl ?_
  intro p e s m args below meth c s₁ B hml hv
  obtain ⟨rfl, hsz, hP, hK, hE, hD0⟩ := hv
  have hx := B.exec
  have hb := B.bytes
  have hr := B.returns
  have hts := atoms_spec (ws := w_Reader_closeBody) B.pre
  have htt : ∀ w ∈ tw_T, w.before _ s = true := fun w h => hts w (List.mem_cons_of_mem _ h)
  have hown : s.vm.findClass R_Reader = some m.cls := findClass_of_methodNamed B.named
  have hlocks := B.notSynchronized
  subst hsz
  have hD := hD0.self (sz := s.heap.size)
  generalize hAe : (va_A (TW cI u o i a g) s.heap.size) = A at hD hE ⊢
  have hA : ∀ q : Nat, s.heap.size ≤ q → A q := fun q h => by rw [← hAe]; exact Or.inr h
  have hS : va_S A s.heap s.heap [] := va_S.rf
  obtain ⟨mc, ms, emc, ems⟩ : ∃ mc ms : Nat, k2.1 = mc ∧ k2.2 = ms := ⟨_, _, rfl, rfl⟩
  have hkc : 0 + k2.1 = mc := by rw [Nat.zero_add]; exact emc
  have hks : 0 + k2.2 = ms := by rw [Nat.zero_add]; exact ems
  rw [emc, ems]
  clear emc ems
  have hl := lv_entry ([.ref ((u 7)), .int v1]) (n := 3) (Nat.le_of_ble_eq_true rfl)
  rw [lg_entry_eq]
  generalize (lg_sl ([.ref ((u 7)), .int v1]) ++ List.replicate (3 - (lg_sl ([.ref ((u 7)), .int v1])).length) Slot.unset).toArray = ls at hl ⊢
  have hl : lv_has ls 3 [(0, .ref ((u 7))), (1, .int v1)] := hl
  rw [m_Reader_closeBody] at hm
  refine lv_aload_n hx hb d_Reader_closeBody_0 rfl (lv_at hl 0 rfl) ?_
  refine va_get (D := (dC, dI)) (ci := 7) (v := .ref ((u 1))) (C := R_Reader) (T := F_Reader) (N := 19) hx hb htt iw_Reader hown hK hP 7 xo_7 rfl 0 (Nat.le_of_ble_eq_true rfl) (htt _ lk_Reader_30) (fun _ h9 => h9) xg_7_0 d_Reader_closeBody_1 ?_
  refine lv_aload_n hx hb d_Reader_closeBody_4 rfl (lv_at hl 0 rfl) ?_
  refine va_get (D := (dC, dI)) (ci := 7) (v := .ref ((u 42))) (C := R_Reader) (T := F_Reader) (N := 19) hx hb htt iw_Reader hown hK hP 7 xo_7 rfl 7 (Nat.le_of_ble_eq_true rfl) (htt _ lk_Reader_15) (fun _ h9 => h9) xg_7_7 d_Reader_closeBody_5 ?_
  refine lv_iconst (v := 0) hx hb d_Reader_closeBody_8 (by decide) ?_
  refine lv_aload_n hx hb d_Reader_closeBody_9 rfl (lv_at hl 0 rfl) ?_
  refine va_get (D := (dC, dI)) (ci := 7) (v := .int (i 28)) (C := R_Reader) (T := F_Reader) (N := 19) hx hb htt iw_Reader hown hK hP 7 xo_7 rfl 8 (Nat.le_of_ble_eq_true rfl) (htt _ lk_Reader_75) (fun _ h9 => h9) xg_7_8 d_Reader_closeBody_10 ?_
  obtain ⟨i_2, a_3, g_4, k_5, r_6, k_7, h_1, hm, e7, e8⟩ := obG_some hm
  have hFc := x_free hD hS hA
  refine xg_calli (va_runV (As := [.ref ((u 42)), .int 0, .int (i 28)]) (rest := []) ⟨hx, hb, hml, hown, hts⟩ (x_Heap_newListOf_a32 l dC dI cI adK adV adA u o g s.heap.size n h_1) (cwV 3 hts (tw_GV tw_cons cw_Heap_newListOf lk_Reader_123 in_Heap_newListOf sel_Heap_newListOf ini_Heap) rfl rfl rfl ⟨rfl, hd_Heap_newListOf⟩ ⟨Nat.le_of_ble_eq_true rfl, Nat.le_of_ble_eq_true rfl⟩) (xpV hK hP hD hS hE hFc xo_1 rfl) rfl rfl hl.1 rfl (lv_room (Nat.le_of_ble_eq_true rfl)) d_Reader_closeBody_13 ⟨show 0 + k_5.1 ≤ mc by omega, show 0 + k_5.2 ≤ ms by omega⟩) hS (fun q _ h => hFc q h) hFc (fun kc_9 ks_10 r9 o_8 t9 H locs ekc eks ht hvm e9 hB hz1 hk1 hS => ?_)
  replace hkc : kc_9 + k_7.1 = mc := by omega
  replace hks : ks_10 + k_7.2 = ms := by omega
  clear e7 e8
  clear ekc eks
  have e9 : r_6 = r9 := e9
  subst e9
  obtain ⟨hP, hD⟩ := x_aftg hB ht hFc
  clear hFc hk1 hz1 hvm hB ht
  refine lv_istore_n (lv' := [(2, .int r_6), (0, .ref ((u 7))), (1, .int v1)]) hx hb d_Reader_closeBody_16 rfl hl (by decide) rfl (fun ls hl => ?_)
  refine lv_aload_n hx hb d_Reader_closeBody_17 rfl (lv_at hl 1 rfl) ?_
  refine lv_iconst (v := 0) hx hb d_Reader_closeBody_18 (by decide) ?_
  refine va_put (D := (dC, dI)) (ci := 7) (v := .int 0) (ty := .int) (C := R_Reader) (T := F_Reader) (N := 19) hx hb htt iw_Reader t_Reader t_Reader_ok n_Reader hown hK hP hD hS 7 xo_7 rfl 8 (Nat.le_of_ble_eq_true rfl) (htt _ lk_Reader_75) (fun _ h9 => h9) rfl (by decide +kernel) rfl rfl xl_7_8 d_Reader_closeBody_19 (fun H locs hP hD hS => ?_)
  obtain ⟨i_11, ei_11⟩ : ∃ y9 : Nat → Int32, y9 = upd i_2 28 0 := ⟨_, rfl⟩
  replace hm := ob1_at ei_11 hm
  obtain ⟨hP, hD⟩ := xw_28 ei_11 hP hD
  refine lv_aload_n hx hb d_Reader_closeBody_22 rfl (lv_at hl 1 rfl) ?_
  refine lv_iconst (v := 0) hx hb d_Reader_closeBody_23 (by decide) ?_
  refine va_put (D := (dC, dI)) (ci := 7) (v := .int 0) (ty := .int) (C := R_Reader) (T := F_Reader) (N := 19) hx hb htt iw_Reader t_Reader t_Reader_ok n_Reader hown hK hP hD hS 7 xo_7 rfl 13 (Nat.le_of_ble_eq_true rfl) (htt _ lk_Reader_72) (fun _ h9 => h9) rfl (by decide +kernel) rfl rfl xl_7_13 d_Reader_closeBody_24 (fun H locs hP hD hS => ?_)
  obtain ⟨i_12, ei_12⟩ : ∃ y9 : Nat → Int32, y9 = upd i_11 32 0 := ⟨_, rfl⟩
  replace hm := ob1_at ei_12 hm
  obtain ⟨hP, hD⟩ := xw_32 ei_12 hP hD
  refine lv_aload_n hx hb d_Reader_closeBody_27 rfl (lv_at hl 1 rfl) ?_
  refine va_get (D := (dC, dI)) (ci := 7) (v := .int (i_12 33)) (C := R_Reader) (T := F_Reader) (N := 19) hx hb htt iw_Reader hown hK hP 7 xo_7 rfl 17 (Nat.le_of_ble_eq_true rfl) (htt _ lk_Reader_84) (fun _ h9 => h9) xg_7_17 d_Reader_closeBody_28 ?_
  refine lv_sipush (v := 200) hx hb d_Reader_closeBody_31 (by decide) ?_
  refine lv_icmp_ge (tgt := 57) hx hb d_Reader_closeBody_34 (by decide) (fun c_13 => ?_) (fun c_13 => ?_)
  · replace hm := if_t c_13 hm
    exact lb_Reader_closeBody_57 l dC dI cI adK adV adA u n hx hb hml hown hts hK hE hA hr hlocks _ _ _ _ _ hm o_8 kc_9 ks_10 hkc hks _ _ _ hP hD hS (lv_sub hl [1, 2] rfl)
  · replace hm := if_f c_13 hm
    refine lv_iload_n hx hb d_Reader_closeBody_37 rfl (lv_at hl 0 rfl) ?_
    refine lv_ldc (v := (-2147483648)) hx hb hown (htt _ lk_Reader_127) d_Reader_closeBody_38 ?_
    refine lv_icmp_eq (tgt := 57) hx hb d_Reader_closeBody_40 (by decide) (fun c_14 => ?_) (fun c_14 => ?_)
    · replace hm := if_t c_14 hm
      exact lb_Reader_closeBody_57 l dC dI cI adK adV adA u n hx hb hml hown hts hK hE hA hr hlocks _ _ _ _ _ hm o_8 kc_9 ks_10 hkc hks _ _ _ hP hD hS (lv_sub hl [1, 2] rfl)
    · replace hm := if_f c_14 hm
      refine lv_aload_n hx hb d_Reader_closeBody_43 rfl (lv_at hl 1 rfl) ?_
      refine va_get (D := (dC, dI)) (ci := 7) (v := .ref ((u 45))) (C := R_Reader) (T := F_Reader) (N := 19) hx hb htt iw_Reader hown hK hP 7 xo_7 rfl 15 (Nat.le_of_ble_eq_true rfl) (htt _ lk_Reader_24) (fun _ h9 => h9) xg_7_15 d_Reader_closeBody_44 ?_
      refine lv_aload_n hx hb d_Reader_closeBody_47 rfl (lv_at hl 1 rfl) ?_
      refine va_get (D := (dC, dI)) (ci := 7) (v := .int (i_12 33)) (C := R_Reader) (T := F_Reader) (N := 19) hx hb htt iw_Reader hown hK hP 7 xo_7 rfl 17 (Nat.le_of_ble_eq_true rfl) (htt _ lk_Reader_84) (fun _ h9 => h9) xg_7_17 d_Reader_closeBody_48 ?_
      obtain ⟨h_15, hm⟩ := ck_some hm
      refine va_iald hx hb hK hP 47 0 twA_35 rfl h_15 d_Reader_closeBody_51 ?_
      refine lv_ldc (v := (-2147483648)) hx hb hown (htt _ lk_Reader_127) d_Reader_closeBody_52 ?_
      refine lv_icmp_ne (tgt := 67) hx hb d_Reader_closeBody_54 (by decide) (fun c_16 => ?_) (fun c_16 => ?_)
      · replace hm := if_f c_16 hm
        refine lv_aload_n hx hb d_Reader_closeBody_67 rfl (lv_at hl 1 rfl) ?_
        refine va_get (D := (dC, dI)) (ci := 7) (v := .ref ((u 46))) (C := R_Reader) (T := F_Reader) (N := 19) hx hb htt iw_Reader hown hK hP 7 xo_7 rfl 16 (Nat.le_of_ble_eq_true rfl) (htt _ lk_Reader_27) (fun _ h9 => h9) xg_7_16 d_Reader_closeBody_68 ?_
        refine lv_aload_n hx hb d_Reader_closeBody_71 rfl (lv_at hl 1 rfl) ?_
        refine va_get (D := (dC, dI)) (ci := 7) (v := .int (i_12 33)) (C := R_Reader) (T := F_Reader) (N := 19) hx hb htt iw_Reader hown hK hP 7 xo_7 rfl 17 (Nat.le_of_ble_eq_true rfl) (htt _ lk_Reader_84) (fun _ h9 => h9) xg_7_17 d_Reader_closeBody_72 ?_
        refine lv_iload_n hx hb d_Reader_closeBody_75 rfl (lv_at hl 0 rfl) ?_
        obtain ⟨h_17, hm⟩ := ck_some hm
        refine va_iast hx hb hK hP hD hS 48 0 twA_36 rfl h_17 d_Reader_closeBody_76 (fun H locs hP hD hS => ?_)
        obtain ⟨a_18, ea_18⟩ : ∃ y9 : Nat → Nat → Int32, y9 = sv a_3 36 (i_12 33).toNatClampNeg r_6 := ⟨_, rfl⟩
        replace hm := ob1_at ea_18 hm
        obtain ⟨hP, hD⟩ := xv_36 ea_18 hP hD
        refine lv_aload_n hx hb d_Reader_closeBody_77 rfl (lv_at hl 1 rfl) ?_
        refine lv_dup hx hb d_Reader_closeBody_78 rfl ?_
        refine va_get (D := (dC, dI)) (ci := 7) (v := .int (i_12 33)) (C := R_Reader) (T := F_Reader) (N := 19) hx hb htt iw_Reader hown hK hP 7 xo_7 rfl 17 (Nat.le_of_ble_eq_true rfl) (htt _ lk_Reader_84) (fun _ h9 => h9) xg_7_17 d_Reader_closeBody_79 ?_
        refine lv_iconst (v := 1) hx hb d_Reader_closeBody_82 (by decide) ?_
        refine lv_iadd hx hb d_Reader_closeBody_83 ?_
        refine lv_topi (fun x_19 ex_19 => ?_)
        replace hm := ob1_at ex_19 hm
        refine va_put (D := (dC, dI)) (ci := 7) (v := .int x_19) (ty := .int) (C := R_Reader) (T := F_Reader) (N := 19) hx hb htt iw_Reader t_Reader t_Reader_ok n_Reader hown hK hP hD hS 7 xo_7 rfl 17 (Nat.le_of_ble_eq_true rfl) (htt _ lk_Reader_84) (fun _ h9 => h9) rfl (by decide +kernel) rfl rfl xl_7_17 d_Reader_closeBody_84 (fun H locs hP hD hS => ?_)
        obtain ⟨i_20, ei_20⟩ : ∃ y9 : Nat → Int32, y9 = upd i_12 33 x_19 := ⟨_, rfl⟩
        replace hm := ob1_at ei_20 hm
        obtain ⟨hP, hD⟩ := xw_33 ei_20 hP hD
        obtain ⟨e1, e2, e4, e5, e6, e3⟩ := re5 hm
        obtain ⟨hP, hD⟩ := x_eqg e1 e2 e4 hP hD
        refine W.widen (k := mc) (n := ms) (show kc_9 ≤ mc by omega) (show ks_10 ≤ ms by omega) ?_
        exact W.vret hx hb hr (fun t9 ht hW => ⟨⟨o_8, rfl, trivial, by rw [ht]; exact hP, hD⟩, hS.F ht⟩) hS.2.2 d_Reader_closeBody_87
      · replace hm := if_t c_16 hm
        exact lb_Reader_closeBody_57 l dC dI cI adK adV adA u n hx hb hml hown hts hK hE hA hr hlocks _ _ _ _ _ hm o_8 kc_9 ks_10 hkc hks _ _ _ hP hD hS (lv_sub hl [1, 2] rfl)

def m_Reader_readEnd (n : Nat) (g : Nat → Nat) (i : Nat → Int32) (a : Nat → Nat → Int32)  : Option ((Nat → Int32) × (Nat → Nat → Int32) × (Nat → Nat) × (Nat × Nat) × Int32) := if ((i 29)) ≤ ((0 : Int32)) then if ((i 31)) = ((0 : Int32)) then obG (m_Heap_newListOf_a32 n g i a (0 : Int32) (i 28)) (fun i_18 a_19 g_20 r_22 => ob1 (upd i_18 27 r_22 : Nat → Int32) (fun i_27 => if ((i_27 27)) = ((-2147483648 : Int32)) then ob (m_Reader_blame n g_20 i_27 a_19 (6 : Int32) (i_27 24)) (fun i_30 a_31 r_32 => some (i_30, a_31, g_20, (0, 0), (0 : Int32))) else some (i_27, a_19, g_20, (0, 0), (0 : Int32)))) else if ((i 32)) = ((0 : Int32)) then some (i, a, g, (0, 0), (0 : Int32)) else if ((i 32)) = ((1 : Int32)) then ob (m_Reader_blame n g i a (8 : Int32) (i 24)) (fun i_12 a_13 r_14 => some (i_12, a_13, g, (0, 0), (0 : Int32))) else ob (m_Reader_blame n g i a (10 : Int32) (i 24)) (fun i_6 a_7 r_8 => some (i_6, a_7, g, (0, 0), (0 : Int32))) else ob (m_Reader_blame n g i a (4 : Int32) (i 24)) (fun i_36 a_37 r_38 => some (i_36, a_37, g, (0, 0), (0 : Int32)))
set_option maxHeartbeats 4000000 in
set_option maxRecDepth 100000 in
theorem x_Reader_readEnd (l : Launch) (dC : Nat → ClassId) (dI : Nat → Nat → Nat) (cI : ClassId) (adK adV adA u o g : Nat → Nat) (sz : Nat) (n : Nat) {i : Nat → Int32} {a : Nat → Nat → Int32}  {i2 : Nat → Int32} {a2 : Nat → Nat → Int32} {g2 : Nat → Nat} {k2 : Nat × Nat} {r2 : Int32} (hm : m_Reader_readEnd n g i a = some (i2, a2, g2, k2, r2)) : Met l y_Reader_readEnd w_Reader_readEnd ({ frames := 5, cells := k2.1, slots := k2.2, locals := 132 } : Room) (va_Pc [.ref ((u 7))] (xE dC dI cI adK adV adA u o g i a sz)) (va_Qv xVg (xBg dC dI cI u g2 i2 a2 (va_A (TW cI u o i a g) sz)) (va_A (TW cI u o i a g) sz)) k2.1 k2.2 ((va_A (TW cI u o i a g) sz)) := by
  refine Met.ofW (cc := b_Reader_readEnd) (maxL := 1) (ret := none) (by decide) rfl ?_
  intro p e s m args below meth c s₁ B hml hv
  obtain ⟨rfl, hsz, hP, hK, hE, hD0⟩ := hv
  have hx := B.exec
  have hb := B.bytes
  have hr := B.returns
  have hts := atoms_spec (ws := w_Reader_readEnd) B.pre
  have htt : ∀ w ∈ tw_T, w.before _ s = true := fun w h => hts w (List.mem_cons_of_mem _ h)
  have hown : s.vm.findClass R_Reader = some m.cls := findClass_of_methodNamed B.named
  have hlocks := B.notSynchronized
  subst hsz
  have hD := hD0.self (sz := s.heap.size)
  generalize hAe : (va_A (TW cI u o i a g) s.heap.size) = A at hD hE ⊢
  have hA : ∀ q : Nat, s.heap.size ≤ q → A q := fun q h => by rw [← hAe]; exact Or.inr h
  have hS : va_S A s.heap s.heap [] := va_S.rf
  obtain ⟨mc, ms, emc, ems⟩ : ∃ mc ms : Nat, k2.1 = mc ∧ k2.2 = ms := ⟨_, _, rfl, rfl⟩
  have hkc : 0 + k2.1 = mc := by rw [Nat.zero_add]; exact emc
  have hks : 0 + k2.2 = ms := by rw [Nat.zero_add]; exact ems
  rw [emc, ems]
  clear emc ems
  have hl := lv_entry ([.ref ((u 7))]) (n := 1) (Nat.le_of_ble_eq_true rfl)
  rw [lg_entry_eq]
  generalize (lg_sl ([.ref ((u 7))]) ++ List.replicate (1 - (lg_sl ([.ref ((u 7))])).length) Slot.unset).toArray = ls at hl ⊢
  have hl : lv_has ls 1 [(0, .ref ((u 7)))] := hl
  rw [m_Reader_readEnd] at hm
  refine lv_aload_n hx hb d_Reader_readEnd_0 rfl (lv_at hl 0 rfl) ?_
  refine va_get (D := (dC, dI)) (ci := 7) (v := .int (i 29)) (C := R_Reader) (T := F_Reader) (N := 19) hx hb htt iw_Reader hown hK hP 7 xo_7 rfl 10 (Nat.le_of_ble_eq_true rfl) (htt _ lk_Reader_78) (fun _ h9 => h9) xg_7_10 d_Reader_readEnd_1 ?_
  refine lv_if_le (tgt := 19) hx hb d_Reader_readEnd_4 (by decide) (fun c_1 => ?_) (fun c_1 => ?_)
  · replace hm := if_t c_1 hm
    refine lv_aload_n hx hb d_Reader_readEnd_19 rfl (lv_at hl 0 rfl) ?_
    refine va_get (D := (dC, dI)) (ci := 7) (v := .int (i 31)) (C := R_Reader) (T := F_Reader) (N := 19) hx hb htt iw_Reader hown hK hP 7 xo_7 rfl 12 (Nat.le_of_ble_eq_true rfl) (htt _ lk_Reader_68) (fun _ h9 => h9) xg_7_12 d_Reader_readEnd_20 ?_
    refine lv_if_ne (tgt := 68) hx hb d_Reader_readEnd_23 (by decide) (fun c_2 => ?_) (fun c_2 => ?_)
    · replace hm := if_f c_2 hm
      refine lv_aload_n hx hb d_Reader_readEnd_68 rfl (lv_at hl 0 rfl) ?_
      refine va_get (D := (dC, dI)) (ci := 7) (v := .int (i 32)) (C := R_Reader) (T := F_Reader) (N := 19) hx hb htt iw_Reader hown hK hP 7 xo_7 rfl 13 (Nat.le_of_ble_eq_true rfl) (htt _ lk_Reader_72) (fun _ h9 => h9) xg_7_13 d_Reader_readEnd_69 ?_
      refine lv_if_eq (tgt := 98) hx hb d_Reader_readEnd_72 (by decide) (fun c_3 => ?_) (fun c_3 => ?_)
      · replace hm := if_t c_3 hm
        obtain ⟨e1, e2, e4, e5, e6, e3⟩ := re5 hm
        obtain ⟨hP, hD⟩ := x_eqg e1 e2 e4 hP hD
        refine W.widen (k := mc) (n := ms) (show 0 ≤ mc by omega) (show 0 ≤ ms by omega) ?_
        exact W.vret hx hb hr (fun t9 ht hW => ⟨⟨o, rfl, trivial, by rw [ht]; exact hP, hD⟩, hS.F ht⟩) hS.2.2 d_Reader_readEnd_98
      · replace hm := if_f c_3 hm
        refine lv_aload_n hx hb d_Reader_readEnd_75 rfl (lv_at hl 0 rfl) ?_
        refine lv_aload_n hx hb d_Reader_readEnd_76 rfl (lv_at hl 0 rfl) ?_
        refine va_get (D := (dC, dI)) (ci := 7) (v := .int (i 32)) (C := R_Reader) (T := F_Reader) (N := 19) hx hb htt iw_Reader hown hK hP 7 xo_7 rfl 13 (Nat.le_of_ble_eq_true rfl) (htt _ lk_Reader_72) (fun _ h9 => h9) xg_7_13 d_Reader_readEnd_77 ?_
        refine lv_iconst (v := 1) hx hb d_Reader_readEnd_80 (by decide) ?_
        refine lv_icmp_ne (tgt := 89) hx hb d_Reader_readEnd_81 (by decide) (fun c_4 => ?_) (fun c_4 => ?_)
        · replace hm := if_f c_4 hm
          refine lv_bipush (v := 10) hx hb d_Reader_readEnd_89 (by decide) ?_
          refine lv_aload_n hx hb d_Reader_readEnd_91 rfl (lv_at hl 0 rfl) ?_
          refine va_get (D := (dC, dI)) (ci := 7) (v := .int (i 24)) (C := R_Reader) (T := F_Reader) (N := 19) hx hb htt iw_Reader hown hK hP 7 xo_7 rfl 3 (Nat.le_of_ble_eq_true rfl) (htt _ lk_Reader_38) (fun _ h9 => h9) xg_7_3 d_Reader_readEnd_92 ?_
          obtain ⟨i_6, a_7, r_8, h_5, hm⟩ := ob_some hm
          have hFc := x_free hD hS hA
          refine xg_callv (va_runV (As := [.int 10, .int (i 24)]) (rest := []) ⟨hx, hb, hml, hown, hts⟩ (x_Reader_blame l dC dI cI adK adV adA u o g s.heap.size n h_5) (cwV 2 hts (tw_GV tw_cons cw_Reader_blame lk_Reader_54 in_Reader_blame sel_Reader_blame ini_Reader) rfl rfl rfl ⟨rfl, hd_Reader_blame⟩ ⟨Nat.le_of_ble_eq_true rfl, Nat.le_of_ble_eq_true rfl⟩) (xpV hK hP hD hS hE hFc xo_7 rfl) rfl rfl hl.1 rfl (lv_room (Nat.le_of_ble_eq_true rfl)) d_Reader_readEnd_95 ⟨show 0 + 0 ≤ mc by omega, show 0 + 0 ≤ ms by omega⟩) hS (fun q _ h => hFc q h) hFc (fun kc_9 ks_10 u9 t9 H locs ekc eks ht hvm e9 hB hz1 hk1 hS => ?_)
          replace hkc : kc_9 + k2.1 = mc := by omega
          replace hks : ks_10 + k2.2 = ms := by omega
          clear ekc eks
          obtain ⟨hP, hD⟩ := x_aft hB ht hFc
          clear hFc hk1 hz1 hvm hB ht
          obtain ⟨e1, e2, e4, e5, e6, e3⟩ := re5 hm
          obtain ⟨hP, hD⟩ := x_eqg e1 e2 e4 hP hD
          refine W.widen (k := mc) (n := ms) (show kc_9 ≤ mc by omega) (show ks_10 ≤ ms by omega) ?_
          exact W.vret hx hb hr (fun t9 ht hW => ⟨⟨o, rfl, trivial, by rw [ht]; exact hP, hD⟩, hS.F ht⟩) hS.2.2 d_Reader_readEnd_98
        · replace hm := if_t c_4 hm
          refine lv_bipush (v := 8) hx hb d_Reader_readEnd_84 (by decide) ?_
          refine lv_goto (tgt := 91) hx hb d_Reader_readEnd_86 (by decide) ?_
          refine lv_aload_n hx hb d_Reader_readEnd_91 rfl (lv_at hl 0 rfl) ?_
          refine va_get (D := (dC, dI)) (ci := 7) (v := .int (i 24)) (C := R_Reader) (T := F_Reader) (N := 19) hx hb htt iw_Reader hown hK hP 7 xo_7 rfl 3 (Nat.le_of_ble_eq_true rfl) (htt _ lk_Reader_38) (fun _ h9 => h9) xg_7_3 d_Reader_readEnd_92 ?_
          obtain ⟨i_12, a_13, r_14, h_11, hm⟩ := ob_some hm
          have hFc := x_free hD hS hA
          refine xg_callv (va_runV (As := [.int 8, .int (i 24)]) (rest := []) ⟨hx, hb, hml, hown, hts⟩ (x_Reader_blame l dC dI cI adK adV adA u o g s.heap.size n h_11) (cwV 2 hts (tw_GV tw_cons cw_Reader_blame lk_Reader_54 in_Reader_blame sel_Reader_blame ini_Reader) rfl rfl rfl ⟨rfl, hd_Reader_blame⟩ ⟨Nat.le_of_ble_eq_true rfl, Nat.le_of_ble_eq_true rfl⟩) (xpV hK hP hD hS hE hFc xo_7 rfl) rfl rfl hl.1 rfl (lv_room (Nat.le_of_ble_eq_true rfl)) d_Reader_readEnd_95 ⟨show 0 + 0 ≤ mc by omega, show 0 + 0 ≤ ms by omega⟩) hS (fun q _ h => hFc q h) hFc (fun kc_15 ks_16 u9 t9 H locs ekc eks ht hvm e9 hB hz1 hk1 hS => ?_)
          replace hkc : kc_15 + k2.1 = mc := by omega
          replace hks : ks_16 + k2.2 = ms := by omega
          clear ekc eks
          obtain ⟨hP, hD⟩ := x_aft hB ht hFc
          clear hFc hk1 hz1 hvm hB ht
          obtain ⟨e1, e2, e4, e5, e6, e3⟩ := re5 hm
          obtain ⟨hP, hD⟩ := x_eqg e1 e2 e4 hP hD
          refine W.widen (k := mc) (n := ms) (show kc_15 ≤ mc by omega) (show ks_16 ≤ ms by omega) ?_
          exact W.vret hx hb hr (fun t9 ht hW => ⟨⟨o, rfl, trivial, by rw [ht]; exact hP, hD⟩, hS.F ht⟩) hS.2.2 d_Reader_readEnd_98
    · replace hm := if_t c_2 hm
      refine lv_aload_n hx hb d_Reader_readEnd_26 rfl (lv_at hl 0 rfl) ?_
      refine lv_aload_n hx hb d_Reader_readEnd_27 rfl (lv_at hl 0 rfl) ?_
      refine va_get (D := (dC, dI)) (ci := 7) (v := .ref ((u 1))) (C := R_Reader) (T := F_Reader) (N := 19) hx hb htt iw_Reader hown hK hP 7 xo_7 rfl 0 (Nat.le_of_ble_eq_true rfl) (htt _ lk_Reader_30) (fun _ h9 => h9) xg_7_0 d_Reader_readEnd_28 ?_
      refine lv_aload_n hx hb d_Reader_readEnd_31 rfl (lv_at hl 0 rfl) ?_
      refine va_get (D := (dC, dI)) (ci := 7) (v := .ref ((u 42))) (C := R_Reader) (T := F_Reader) (N := 19) hx hb htt iw_Reader hown hK hP 7 xo_7 rfl 7 (Nat.le_of_ble_eq_true rfl) (htt _ lk_Reader_15) (fun _ h9 => h9) xg_7_7 d_Reader_readEnd_32 ?_
      refine lv_iconst (v := 0) hx hb d_Reader_readEnd_35 (by decide) ?_
      refine lv_aload_n hx hb d_Reader_readEnd_36 rfl (lv_at hl 0 rfl) ?_
      refine va_get (D := (dC, dI)) (ci := 7) (v := .int (i 28)) (C := R_Reader) (T := F_Reader) (N := 19) hx hb htt iw_Reader hown hK hP 7 xo_7 rfl 8 (Nat.le_of_ble_eq_true rfl) (htt _ lk_Reader_75) (fun _ h9 => h9) xg_7_8 d_Reader_readEnd_37 ?_
      obtain ⟨i_18, a_19, g_20, k_21, r_22, k_23, h_17, hm, e7, e8⟩ := obG_some hm
      have hFc := x_free hD hS hA
      refine xg_calli (va_runV (As := [.ref ((u 42)), .int 0, .int (i 28)]) (rest := [.ref ((u 7))]) ⟨hx, hb, hml, hown, hts⟩ (x_Heap_newListOf_a32 l dC dI cI adK adV adA u o g s.heap.size n h_17) (cwV 3 hts (tw_GV tw_cons cw_Heap_newListOf lk_Reader_123 in_Heap_newListOf sel_Heap_newListOf ini_Heap) rfl rfl rfl ⟨rfl, hd_Heap_newListOf⟩ ⟨Nat.le_of_ble_eq_true rfl, Nat.le_of_ble_eq_true rfl⟩) (xpV hK hP hD hS hE hFc xo_1 rfl) rfl rfl hl.1 rfl (lv_room (Nat.le_of_ble_eq_true rfl)) d_Reader_readEnd_40 ⟨show 0 + k_21.1 ≤ mc by omega, show 0 + k_21.2 ≤ ms by omega⟩) hS (fun q _ h => hFc q h) hFc (fun kc_25 ks_26 r9 o_24 t9 H locs ekc eks ht hvm e9 hB hz1 hk1 hS => ?_)
      replace hkc : kc_25 + k_23.1 = mc := by omega
      replace hks : ks_26 + k_23.2 = ms := by omega
      clear e7 e8
      clear ekc eks
      have e9 : r_22 = r9 := e9
      subst e9
      obtain ⟨hP, hD⟩ := x_aftg hB ht hFc
      clear hFc hk1 hz1 hvm hB ht
      refine va_put (D := (dC, dI)) (ci := 7) (v := .int r_22) (ty := .int) (C := R_Reader) (T := F_Reader) (N := 19) hx hb htt iw_Reader t_Reader t_Reader_ok n_Reader hown hK hP hD hS 7 xo_7 rfl 6 (Nat.le_of_ble_eq_true rfl) (htt _ lk_Reader_174) (fun _ h9 => h9) rfl (by decide +kernel) rfl rfl xl_7_6 d_Reader_readEnd_43 (fun H locs hP hD hS => ?_)
      obtain ⟨i_27, ei_27⟩ : ∃ y9 : Nat → Int32, y9 = upd i_18 27 r_22 := ⟨_, rfl⟩
      replace hm := ob1_at ei_27 hm
      obtain ⟨hP, hD⟩ := xw_27 ei_27 hP hD
      refine lv_aload_n hx hb d_Reader_readEnd_46 rfl (lv_at hl 0 rfl) ?_
      refine va_get (D := (dC, dI)) (ci := 7) (v := .int (i_27 27)) (C := R_Reader) (T := F_Reader) (N := 19) hx hb htt iw_Reader hown hK hP 7 xo_7 rfl 6 (Nat.le_of_ble_eq_true rfl) (htt _ lk_Reader_174) (fun _ h9 => h9) xg_7_6 d_Reader_readEnd_47 ?_
      refine lv_ldc (v := (-2147483648)) hx hb hown (htt _ lk_Reader_127) d_Reader_readEnd_50 ?_
      refine lv_icmp_ne (tgt := 98) hx hb d_Reader_readEnd_52 (by decide) (fun c_28 => ?_) (fun c_28 => ?_)
      · replace hm := if_f c_28 hm
        obtain ⟨e1, e2, e4, e5, e6, e3⟩ := re5 hm
        obtain ⟨hP, hD⟩ := x_eqg e1 e2 e4 hP hD
        refine W.widen (k := mc) (n := ms) (show kc_25 ≤ mc by omega) (show ks_26 ≤ ms by omega) ?_
        exact W.vret hx hb hr (fun t9 ht hW => ⟨⟨o_24, rfl, trivial, by rw [ht]; exact hP, hD⟩, hS.F ht⟩) hS.2.2 d_Reader_readEnd_98
      · replace hm := if_t c_28 hm
        refine lv_aload_n hx hb d_Reader_readEnd_55 rfl (lv_at hl 0 rfl) ?_
        refine lv_bipush (v := 6) hx hb d_Reader_readEnd_56 (by decide) ?_
        refine lv_aload_n hx hb d_Reader_readEnd_58 rfl (lv_at hl 0 rfl) ?_
        refine va_get (D := (dC, dI)) (ci := 7) (v := .int (i_27 24)) (C := R_Reader) (T := F_Reader) (N := 19) hx hb htt iw_Reader hown hK hP 7 xo_7 rfl 3 (Nat.le_of_ble_eq_true rfl) (htt _ lk_Reader_38) (fun _ h9 => h9) xg_7_3 d_Reader_readEnd_59 ?_
        obtain ⟨i_30, a_31, r_32, h_29, hm⟩ := ob_some hm
        have hFc := x_free hD hS hA
        refine xg_callv (va_runV (As := [.int 6, .int (i_27 24)]) (rest := []) ⟨hx, hb, hml, hown, hts⟩ (x_Reader_blame l dC dI cI adK adV adA u o_24 g_20 H.size n h_29) (cwV 2 hts (tw_GV tw_cons cw_Reader_blame lk_Reader_54 in_Reader_blame sel_Reader_blame ini_Reader) rfl rfl rfl ⟨rfl, hd_Reader_blame⟩ ⟨Nat.le_of_ble_eq_true rfl, Nat.le_of_ble_eq_true rfl⟩) (xpV hK hP hD hS hE hFc xo_7 rfl) rfl rfl hl.1 rfl (lv_room (Nat.le_of_ble_eq_true rfl)) d_Reader_readEnd_62 ⟨show kc_25 + 0 ≤ mc by omega, show ks_26 + 0 ≤ ms by omega⟩) hS (fun q _ h => hFc q h) hFc (fun kc_33 ks_34 u9 t9 H locs ekc eks ht hvm e9 hB hz1 hk1 hS => ?_)
        replace hkc : kc_33 + k_23.1 = mc := by omega
        replace hks : ks_34 + k_23.2 = ms := by omega
        clear ekc eks
        obtain ⟨hP, hD⟩ := x_aft hB ht hFc
        clear hFc hk1 hz1 hvm hB ht
        refine lv_goto (tgt := 98) hx hb d_Reader_readEnd_65 (by decide) ?_
        obtain ⟨e1, e2, e4, e5, e6, e3⟩ := re5 hm
        obtain ⟨hP, hD⟩ := x_eqg e1 e2 e4 hP hD
        refine W.widen (k := mc) (n := ms) (show kc_33 ≤ mc by omega) (show ks_34 ≤ ms by omega) ?_
        exact W.vret hx hb hr (fun t9 ht hW => ⟨⟨o_24, rfl, trivial, by rw [ht]; exact hP, hD⟩, hS.F ht⟩) hS.2.2 d_Reader_readEnd_98
  · replace hm := if_f c_1 hm
    refine lv_aload_n hx hb d_Reader_readEnd_7 rfl (lv_at hl 0 rfl) ?_
    refine lv_iconst (v := 4) hx hb d_Reader_readEnd_8 (by decide) ?_
    refine lv_aload_n hx hb d_Reader_readEnd_9 rfl (lv_at hl 0 rfl) ?_
    refine va_get (D := (dC, dI)) (ci := 7) (v := .int (i 24)) (C := R_Reader) (T := F_Reader) (N := 19) hx hb htt iw_Reader hown hK hP 7 xo_7 rfl 3 (Nat.le_of_ble_eq_true rfl) (htt _ lk_Reader_38) (fun _ h9 => h9) xg_7_3 d_Reader_readEnd_10 ?_
    obtain ⟨i_36, a_37, r_38, h_35, hm⟩ := ob_some hm
    have hFc := x_free hD hS hA
    refine xg_callv (va_runV (As := [.int 4, .int (i 24)]) (rest := []) ⟨hx, hb, hml, hown, hts⟩ (x_Reader_blame l dC dI cI adK adV adA u o g s.heap.size n h_35) (cwV 2 hts (tw_GV tw_cons cw_Reader_blame lk_Reader_54 in_Reader_blame sel_Reader_blame ini_Reader) rfl rfl rfl ⟨rfl, hd_Reader_blame⟩ ⟨Nat.le_of_ble_eq_true rfl, Nat.le_of_ble_eq_true rfl⟩) (xpV hK hP hD hS hE hFc xo_7 rfl) rfl rfl hl.1 rfl (lv_room (Nat.le_of_ble_eq_true rfl)) d_Reader_readEnd_13 ⟨show 0 + 0 ≤ mc by omega, show 0 + 0 ≤ ms by omega⟩) hS (fun q _ h => hFc q h) hFc (fun kc_39 ks_40 u9 t9 H locs ekc eks ht hvm e9 hB hz1 hk1 hS => ?_)
    replace hkc : kc_39 + k2.1 = mc := by omega
    replace hks : ks_40 + k2.2 = ms := by omega
    clear ekc eks
    obtain ⟨hP, hD⟩ := x_aft hB ht hFc
    clear hFc hk1 hz1 hvm hB ht
    refine lv_goto (tgt := 98) hx hb d_Reader_readEnd_16 (by decide) ?_
    obtain ⟨e1, e2, e4, e5, e6, e3⟩ := re5 hm
    obtain ⟨hP, hD⟩ := x_eqg e1 e2 e4 hP hD
    refine W.widen (k := mc) (n := ms) (show kc_39 ≤ mc by omega) (show ks_40 ≤ ms by omega) ?_
    exact W.vret hx hb hr (fun t9 ht hW => ⟨⟨o, rfl, trivial, by rw [ht]; exact hP, hD⟩, hS.F ht⟩) hS.2.2 d_Reader_readEnd_98

def m_Reader_tellAll_b2 (n : Nat) (g : Nat → Nat) : Nat → (Nat → Int32) → (Nat → Nat → Int32) → Int32 → Option ((Nat → Int32) × (Nat → Nat → Int32) × Int32)
  | 0, _, _, _ => none
  | f + 1, i, a, v1 => if ((i 33)) ≤ v1 then some (i, a, i 33) else ck v1 200 (ck v1 200 (ck v1 200 (ob (m_Procedures_tell n g i a (a 34 v1.toNatClampNeg) (a 35 v1.toNatClampNeg) (a 36 v1.toNatClampNeg)) (fun i_6 a_7 r_8 => ob1 (v1 + 1 : Int32) (fun x_9 => m_Reader_tellAll_b2 n g f i_6 a_7 x_9)))))
set_option maxHeartbeats 4000000 in
set_option maxRecDepth 100000 in
theorem lb_Reader_tellAll_2 (l : Launch) (dC : Nat → ClassId) (dI : Nat → Nat → Nat) (cI : ClassId) (adK adV adA u o g : Nat → Nat) (n : Nat) {p : Program} {e : Env} {s : State} {m : MethodId} {args : Array Value} {below : List Frame} {meth : Method} {c : Code} {A : Nat → Prop} (hx : p.tables.exec = Jvm.exec) (hb : c.code = b_Reader_tellAll) (hml : c.maxLocals = 2) (hown : s.vm.findClass R_Reader = some m.cls) (hts : ∀ w ∈ w_Reader_tellAll, w.before args s = true) (hK : va_K (dC, dI) classes [(cI, .int)] s) (hE : tw_E adK adV adA A s s.heap) (hA : ∀ q : Nat, s.heap.size ≤ q → A q) (hr : meth.sig.returnType = (some .int)) (hlocks : meth.locks = false) {i2 : Nat → Int32} {a2 : Nat → Nat → Int32} {r2 : Int32} : ∀ (f : Nat) (i : Nat → Int32) (a : Nat → Nat → Int32) (v1 : Int32), m_Reader_tellAll_b2 n g f i a v1 = some (i2, a2, r2) → ∀ (H : Heap) (locs : List Loc) (ls : Array Slot), va_P (dC, dI) classes (TW cI u o i a g) H → va_D A (TW cI u o i a g) → va_S A s.heap H locs → lv_has ls 2 [(0, .ref ((u 7))), (1, .int v1)] → W p l e ({ frames := 3, cells := 0, slots := 0, locals := 72 } : Room) s m args below meth c H locs 0 0 (MQ below (va_Qi (xR r2) (xB dC dI cI u o g i2 a2 A) A) args s 0 0 A) (F0 m 2 ls []) := by
  have htt : ∀ w ∈ tw_T, w.before _ s = true := fun w h => hts w (List.mem_cons_of_mem _ h)
  intro f
  induction f with
  | zero =>
    intro i a v1 hm
    rw [m_Reader_tellAll_b2] at hm
    cases hm
  | succ f ih =>
    intro i a v1 hm H locs ls hP hD hS hl
    rw [m_Reader_tellAll_b2] at hm
    refine lv_iload_n hx hb d_Reader_tellAll_2 rfl (lv_at hl 1 rfl) ?_
    refine lv_aload_n hx hb d_Reader_tellAll_3 rfl (lv_at hl 0 rfl) ?_
    refine va_get (D := (dC, dI)) (ci := 7) (v := .int (i 33)) (C := R_Reader) (T := F_Reader) (N := 19) hx hb htt iw_Reader hown hK hP 7 xo_7 rfl 17 (Nat.le_of_ble_eq_true rfl) (htt _ lk_Reader_84) (fun _ h9 => h9) xg_7_17 d_Reader_tellAll_4 ?_
    refine lv_icmp_ge (tgt := 42) hx hb d_Reader_tellAll_7 (by decide) (fun c_1 => ?_) (fun c_1 => ?_)
    · replace hm := if_t c_1 hm
      refine lv_aload_n hx hb d_Reader_tellAll_42 rfl (lv_at hl 0 rfl) ?_
      refine va_get (D := (dC, dI)) (ci := 7) (v := .int (i 33)) (C := R_Reader) (T := F_Reader) (N := 19) hx hb htt iw_Reader hown hK hP 7 xo_7 rfl 17 (Nat.le_of_ble_eq_true rfl) (htt _ lk_Reader_84) (fun _ h9 => h9) xg_7_17 d_Reader_tellAll_43 ?_
      obtain ⟨e1i, e1a, e3⟩ := re3 hm
      obtain ⟨hP, hD⟩ := x_eq e1i e1a hP hD
      exact W.iret hx hb hr (fun t9 ht hW => ⟨⟨_, (), rfl, e3.symm, by rw [ht]; exact hP, hD⟩, hS.F ht⟩) hS.2.2 d_Reader_tellAll_46
    · replace hm := if_f c_1 hm
      refine lv_aload_n hx hb d_Reader_tellAll_10 rfl (lv_at hl 0 rfl) ?_
      refine va_get (D := (dC, dI)) (ci := 7) (v := .ref ((u 4))) (C := R_Reader) (T := F_Reader) (N := 19) hx hb htt iw_Reader hown hK hP 7 xo_7 rfl 1 (Nat.le_of_ble_eq_true rfl) (htt _ lk_Reader_34) (fun _ h9 => h9) xg_7_1 d_Reader_tellAll_11 ?_
      refine lv_aload_n hx hb d_Reader_tellAll_14 rfl (lv_at hl 0 rfl) ?_
      refine va_get (D := (dC, dI)) (ci := 7) (v := .ref ((u 44))) (C := R_Reader) (T := F_Reader) (N := 19) hx hb htt iw_Reader hown hK hP 7 xo_7 rfl 14 (Nat.le_of_ble_eq_true rfl) (htt _ lk_Reader_21) (fun _ h9 => h9) xg_7_14 d_Reader_tellAll_15 ?_
      refine lv_iload_n hx hb d_Reader_tellAll_18 rfl (lv_at hl 1 rfl) ?_
      obtain ⟨h_2, hm⟩ := ck_some hm
      refine va_iald hx hb hK hP 46 0 twA_34 rfl h_2 d_Reader_tellAll_19 ?_
      refine lv_aload_n hx hb d_Reader_tellAll_20 rfl (lv_at hl 0 rfl) ?_
      refine va_get (D := (dC, dI)) (ci := 7) (v := .ref ((u 45))) (C := R_Reader) (T := F_Reader) (N := 19) hx hb htt iw_Reader hown hK hP 7 xo_7 rfl 15 (Nat.le_of_ble_eq_true rfl) (htt _ lk_Reader_24) (fun _ h9 => h9) xg_7_15 d_Reader_tellAll_21 ?_
      refine lv_iload_n hx hb d_Reader_tellAll_24 rfl (lv_at hl 1 rfl) ?_
      obtain ⟨h_3, hm⟩ := ck_some hm
      refine va_iald hx hb hK hP 47 0 twA_35 rfl h_3 d_Reader_tellAll_25 ?_
      refine lv_aload_n hx hb d_Reader_tellAll_26 rfl (lv_at hl 0 rfl) ?_
      refine va_get (D := (dC, dI)) (ci := 7) (v := .ref ((u 46))) (C := R_Reader) (T := F_Reader) (N := 19) hx hb htt iw_Reader hown hK hP 7 xo_7 rfl 16 (Nat.le_of_ble_eq_true rfl) (htt _ lk_Reader_27) (fun _ h9 => h9) xg_7_16 d_Reader_tellAll_27 ?_
      refine lv_iload_n hx hb d_Reader_tellAll_30 rfl (lv_at hl 1 rfl) ?_
      obtain ⟨h_4, hm⟩ := ck_some hm
      refine va_iald hx hb hK hP 48 0 twA_36 rfl h_4 d_Reader_tellAll_31 ?_
      obtain ⟨i_6, a_7, r_8, h_5, hm⟩ := ob_some hm
      have hFc := x_free hD hS hA
      refine va_calli (va_runV (As := [.int (a 34 v1.toNatClampNeg), .int (a 35 v1.toNatClampNeg), .int (a 36 v1.toNatClampNeg)]) (rest := []) ⟨hx, hb, hml, hown, hts⟩ (x_Procedures_tell l dC dI cI adK adV adA u o g H.size n h_5) (cwV 3 hts (tw_GV tw_cons cw_Procedures_tell lk_Reader_177 in_Procedures_tell sel_Procedures_tell ini_Procedures) rfl rfl rfl ⟨rfl, hd_Procedures_tell⟩ ⟨Nat.le_of_ble_eq_true rfl, Nat.le_of_ble_eq_true rfl⟩) (xpV hK hP hD hS hE hFc xo_4 rfl) rfl rfl hl.1 rfl (lv_room (Nat.le_of_ble_eq_true rfl)) d_Reader_tellAll_32 ⟨Nat.le_of_ble_eq_true rfl, Nat.le_of_ble_eq_true rfl⟩) hS (fun q _ h => hFc q h) hFc (fun r9 u9 t9 H locs ht hvm e9 hB hz1 hk1 hS => ?_)
      have e9 : r_8 = r9 := e9
      subst e9
      obtain ⟨hP, hD⟩ := x_aft hB ht hFc
      clear hFc hk1 hz1 hvm hB ht
      refine lv_pop hx hb d_Reader_tellAll_35 rfl ?_
      obtain ⟨x_9, ex_9⟩ : ∃ y9 : Int32, y9 = v1 + 1 := ⟨_, rfl⟩
      replace hm := ob1_at ex_9 hm
      refine lv_iinc (v := x_9) (lv' := [(1, .int x_9), (0, .ref ((u 7)))]) hx hb d_Reader_tellAll_36 hl (k := 1) rfl (by rw [ex_9]; rfl) (by decide) rfl (fun ls hl => ?_)
      refine lv_goto (tgt := 2) hx hb d_Reader_tellAll_39 (by decide) ?_
      exact ih _ _ _ hm _ _ _ hP hD hS (lv_sub hl [1, 0] rfl)
def m_Reader_tellAll (n : Nat) (g : Nat → Nat) (i : Nat → Int32) (a : Nat → Nat → Int32)  : Option ((Nat → Int32) × (Nat → Nat → Int32) × Int32) := m_Reader_tellAll_b2 n g n i a (0 : Int32)
set_option maxHeartbeats 4000000 in
set_option maxRecDepth 100000 in
theorem x_Reader_tellAll (l : Launch) (dC : Nat → ClassId) (dI : Nat → Nat → Nat) (cI : ClassId) (adK adV adA u o g : Nat → Nat) (sz : Nat) (n : Nat) {i : Nat → Int32} {a : Nat → Nat → Int32}  {i2 : Nat → Int32} {a2 : Nat → Nat → Int32} {r2 : Int32} (hm : m_Reader_tellAll n g i a = some (i2, a2, r2)) : Met l y_Reader_tellAll w_Reader_tellAll ({ frames := 3, cells := 0, slots := 0, locals := 72 } : Room) (va_Pc [.ref ((u 7))] (xE dC dI cI adK adV adA u o g i a sz)) (va_Qi (xR r2) (xB dC dI cI u o g i2 a2 (va_A (TW cI u o i a g) sz)) (va_A (TW cI u o i a g) sz)) 0 0 ((va_A (TW cI u o i a g) sz)) := by
  refine Met.ofW (cc := b_Reader_tellAll) (maxL := 2) (ret := (some .int)) (by decide) rfl ?_
  intro p e s m args below meth c s₁ B hml hv
  obtain ⟨rfl, hsz, hP, hK, hE, hD0⟩ := hv
  have hx := B.exec
  have hb := B.bytes
  have hr := B.returns
  have hts := atoms_spec (ws := w_Reader_tellAll) B.pre
  have htt : ∀ w ∈ tw_T, w.before _ s = true := fun w h => hts w (List.mem_cons_of_mem _ h)
  have hown : s.vm.findClass R_Reader = some m.cls := findClass_of_methodNamed B.named
  have hlocks := B.notSynchronized
  subst hsz
  have hD := hD0.self (sz := s.heap.size)
  generalize hAe : (va_A (TW cI u o i a g) s.heap.size) = A at hD hE ⊢
  have hA : ∀ q : Nat, s.heap.size ≤ q → A q := fun q h => by rw [← hAe]; exact Or.inr h
  have hS : va_S A s.heap s.heap [] := va_S.rf
  have hl := lv_entry ([.ref ((u 7))]) (n := 2) (Nat.le_of_ble_eq_true rfl)
  rw [lg_entry_eq]
  generalize (lg_sl ([.ref ((u 7))]) ++ List.replicate (2 - (lg_sl ([.ref ((u 7))])).length) Slot.unset).toArray = ls at hl ⊢
  have hl : lv_has ls 2 [(0, .ref ((u 7)))] := hl
  rw [m_Reader_tellAll] at hm
  refine lv_iconst (v := 0) hx hb d_Reader_tellAll_0 (by decide) ?_
  refine lv_istore_n (lv' := [(1, .int 0), (0, .ref ((u 7)))]) hx hb d_Reader_tellAll_1 rfl hl (by decide) rfl (fun ls hl => ?_)
  exact lb_Reader_tellAll_2 l dC dI cI adK adV adA u o g n hx hb hml hown hts hK hE hA hr hlocks n _ _ _ hm _ _ _ hP hD hS (lv_sub hl [1, 0] rfl)

def m_Heap_moved (n : Nat) (g : Nat → Nat) (i : Nat → Int32) (a : Nat → Nat → Int32) (v1 : Int32) : Option ((Nat → Int32) × (Nat → Nat → Int32) × (Nat → Nat) × (Nat × Nat) × Int32) := ob1 (v1 >>> ((2 : Int32) &&& 31) : Int32) (fun x_1 => ob0 (m_Heap_isNumber n v1) (fun r_3 => if r_3 = ((0 : Int32)) then if x_1 < ((i 7)) then some (i, a, g, (0, 0), v1) else if x_1 < ((nI (g 0))) then ob0 (m_Heap_isList n v1) (fun r_10 => if r_10 = ((0 : Int32)) then obG (m_Heap_movedWord n g i a x_1) (fun i_15 a_16 g_17 r_19 => some (i_15, a_16, g_17, (0, 0), r_19)) else obG (m_Heap_movedList n g i a x_1) (fun i_25 a_26 g_27 r_29 => some (i_25, a_26, g_27, (0, 0), r_29))) else some (i, a, g, (0, 0), v1) else some (i, a, g, (0, 0), v1)))
set_option maxHeartbeats 4000000 in
set_option maxRecDepth 100000 in
theorem x_Heap_moved (l : Launch) (dC : Nat → ClassId) (dI : Nat → Nat → Nat) (cI : ClassId) (adK adV adA u o g : Nat → Nat) (sz : Nat) (n : Nat) {i : Nat → Int32} {a : Nat → Nat → Int32} {v1 : Int32} {i2 : Nat → Int32} {a2 : Nat → Nat → Int32} {g2 : Nat → Nat} {k2 : Nat × Nat} {r2 : Int32} (hm : m_Heap_moved n g i a v1 = some (i2, a2, g2, k2, r2)) : Met l y_Heap_moved w_Heap_moved ({ frames := 4, cells := k2.1, slots := k2.2, locals := 108 } : Room) (va_Pc [.ref ((u 1)), .int v1] (xE dC dI cI adK adV adA u o g i a sz)) (va_Qi (xRg r2) (xBg dC dI cI u g2 i2 a2 (va_A (TW cI u o i a g) sz)) (va_A (TW cI u o i a g) sz)) k2.1 k2.2 ((va_A (TW cI u o i a g) sz)) := by
  refine Met.ofW (cc := b_Heap_moved) (maxL := 3) (ret := (some .int)) (by decide) rfl ?_
  intro p e s m args below meth c s₁ B hml hv
  obtain ⟨rfl, hsz, hP, hK, hE, hD0⟩ := hv
  have hx := B.exec
  have hb := B.bytes
  have hr := B.returns
  have hts := atoms_spec (ws := w_Heap_moved) B.pre
  have htt : ∀ w ∈ tw_T, w.before _ s = true := fun w h => hts w (List.mem_cons_of_mem _ h)
  have hown : s.vm.findClass R_Heap = some m.cls := findClass_of_methodNamed B.named
  have hlocks := B.notSynchronized
  subst hsz
  have hD := hD0.self (sz := s.heap.size)
  generalize hAe : (va_A (TW cI u o i a g) s.heap.size) = A at hD hE ⊢
  have hA : ∀ q : Nat, s.heap.size ≤ q → A q := fun q h => by rw [← hAe]; exact Or.inr h
  have hS : va_S A s.heap s.heap [] := va_S.rf
  obtain ⟨mc, ms, emc, ems⟩ : ∃ mc ms : Nat, k2.1 = mc ∧ k2.2 = ms := ⟨_, _, rfl, rfl⟩
  have hkc : 0 + k2.1 = mc := by rw [Nat.zero_add]; exact emc
  have hks : 0 + k2.2 = ms := by rw [Nat.zero_add]; exact ems
  rw [emc, ems]
  clear emc ems
  have hl := lv_entry ([.ref ((u 1)), .int v1]) (n := 3) (Nat.le_of_ble_eq_true rfl)
  rw [lg_entry_eq]
  generalize (lg_sl ([.ref ((u 1)), .int v1]) ++ List.replicate (3 - (lg_sl ([.ref ((u 1)), .int v1])).length) Slot.unset).toArray = ls at hl ⊢
  have hl : lv_has ls 3 [(0, .ref ((u 1))), (1, .int v1)] := hl
  rw [m_Heap_moved] at hm
  refine lv_iload_n hx hb d_Heap_moved_0 rfl (lv_at hl 1 rfl) ?_
  refine lv_iconst (v := 2) hx hb d_Heap_moved_1 (by decide) ?_
  refine lv_ishr hx hb d_Heap_moved_2 ?_
  refine lv_topi (fun x_1 ex_1 => ?_)
  replace hm := ob1_at ex_1 hm
  refine lv_istore_n (lv' := [(2, .int x_1), (0, .ref ((u 1))), (1, .int v1)]) hx hb d_Heap_moved_3 rfl hl (by decide) rfl (fun ls hl => ?_)
  refine lv_iload_n hx hb d_Heap_moved_4 rfl (lv_at hl 2 rfl) ?_
  obtain ⟨r_3, h_2, hm⟩ := ob0_some hm
  have hFc := x_free0 hS hA
  refine xg_calli (va_runS (As := [.int v1]) (rest := []) ⟨hx, hb, hml, hown, hts⟩ (x_Heap_isNumber l s.heap.size n h_2) (va_cwS 1 hts (tw_GS tw_cons cw_Heap_isNumber lk_Heap_156 st_Heap_isNumber ini_Heap) rfl rfl rfl hd_Heap_isNumber ⟨Nat.le_of_ble_eq_true rfl, Nat.le_of_ble_eq_true rfl⟩) xpS0 rfl rfl hl.1 rfl (lv_room (Nat.le_of_ble_eq_true rfl)) d_Heap_moved_5 ⟨show 0 + 0 ≤ mc by omega, show 0 + 0 ≤ ms by omega⟩) hS (fun q _ h => hFc q h) hFc (fun kc_4 ks_5 r9 u9 t9 H locs ekc eks ht hvm e9 hB hz1 hk1 hS => ?_)
  replace hkc : kc_4 + k2.1 = mc := by omega
  replace hks : ks_5 + k2.2 = ms := by omega
  clear ekc eks
  have e9 : r_3 = r9 := e9
  subst e9
  replace hP := x_keep hP hk1
  clear hFc hk1 hz1 hvm hB ht
  refine lv_if_ne (tgt := 28) hx hb d_Heap_moved_8 (by decide) (fun c_6 => ?_) (fun c_6 => ?_)
  · replace hm := if_f c_6 hm
    refine lv_iload_n hx hb d_Heap_moved_28 rfl (lv_at hl 2 rfl) ?_
    obtain ⟨e1, e2, e4, e5, e6, e3⟩ := re5 hm
    obtain ⟨hP, hD⟩ := x_eqg e1 e2 e4 hP hD
    refine W.widen (k := mc) (n := ms) (show kc_4 ≤ mc by omega) (show ks_5 ≤ ms by omega) ?_
    exact W.iret hx hb hr (fun t9 ht hW => ⟨⟨_, o, rfl, e3.symm, by rw [ht]; exact hP, hD⟩, hS.F ht⟩) hS.2.2 d_Heap_moved_29
  · replace hm := if_t c_6 hm
    refine lv_iload_n hx hb d_Heap_moved_11 rfl (lv_at hl 0 rfl) ?_
    refine lv_aload_n hx hb d_Heap_moved_12 rfl (lv_at hl 1 rfl) ?_
    refine va_get (D := (dC, dI)) (ci := 1) (v := .int (i 7)) (C := R_Heap) (T := F_Heap) (N := 12) hx hb htt iw_Heap hown hK hP 1 xo_1 rfl 4 (Nat.le_of_ble_eq_true rfl) (htt _ lk_Heap_54) (fun _ h9 => h9) xg_1_4 d_Heap_moved_13 ?_
    refine lv_icmp_lt (tgt := 28) hx hb d_Heap_moved_16 (by decide) (fun c_7 => ?_) (fun c_7 => ?_)
    · replace hm := if_t c_7 hm
      refine lv_iload_n hx hb d_Heap_moved_28 rfl (lv_at hl 2 rfl) ?_
      obtain ⟨e1, e2, e4, e5, e6, e3⟩ := re5 hm
      obtain ⟨hP, hD⟩ := x_eqg e1 e2 e4 hP hD
      refine W.widen (k := mc) (n := ms) (show kc_4 ≤ mc by omega) (show ks_5 ≤ ms by omega) ?_
      exact W.iret hx hb hr (fun t9 ht hW => ⟨⟨_, o, rfl, e3.symm, by rw [ht]; exact hP, hD⟩, hS.F ht⟩) hS.2.2 d_Heap_moved_29
    · replace hm := if_f c_7 hm
      refine lv_iload_n hx hb d_Heap_moved_19 rfl (lv_at hl 0 rfl) ?_
      refine lv_aload_n hx hb d_Heap_moved_20 rfl (lv_at hl 1 rfl) ?_
      refine va_get (D := (dC, dI)) (ci := 1) (v := .ref ((o 0))) (C := R_Heap) (T := F_Heap) (N := 12) hx hb htt iw_Heap hown hK hP 1 xo_1 rfl 5 (Nat.le_of_ble_eq_true rfl) (htt _ lk_Heap_11) (fun _ h9 => h9) xg_1_5 d_Heap_moved_21 ?_
      refine va_alen (v := nI (g 0)) hx hb hK hP 12 0 twA_0 rfl rfl d_Heap_moved_24 ?_
      refine lv_icmp_lt (tgt := 30) hx hb d_Heap_moved_25 (by decide) (fun c_8 => ?_) (fun c_8 => ?_)
      · replace hm := if_t c_8 hm
        refine lv_iload_n hx hb d_Heap_moved_30 rfl (lv_at hl 2 rfl) ?_
        obtain ⟨r_10, h_9, hm⟩ := ob0_some hm
        have hFc := x_free0 hS hA
        refine xg_calli (va_runS (As := [.int v1]) (rest := []) ⟨hx, hb, hml, hown, hts⟩ (x_Heap_isList l H.size n h_9) (va_cwS 1 hts (tw_GS tw_cons cw_Heap_isList lk_Heap_143 st_Heap_isList ini_Heap) rfl rfl rfl hd_Heap_isList ⟨Nat.le_of_ble_eq_true rfl, Nat.le_of_ble_eq_true rfl⟩) xpS0 rfl rfl hl.1 rfl (lv_room (Nat.le_of_ble_eq_true rfl)) d_Heap_moved_31 ⟨show kc_4 + 0 ≤ mc by omega, show ks_5 + 0 ≤ ms by omega⟩) hS (fun q _ h => hFc q h) hFc (fun kc_11 ks_12 r9 u9 t9 H locs ekc eks ht hvm e9 hB hz1 hk1 hS => ?_)
        replace hkc : kc_11 + k2.1 = mc := by omega
        replace hks : ks_12 + k2.2 = ms := by omega
        clear ekc eks
        have e9 : r_10 = r9 := e9
        subst e9
        replace hP := x_keep hP hk1
        clear hFc hk1 hz1 hvm hB ht
        refine lv_if_eq (tgt := 45) hx hb d_Heap_moved_34 (by decide) (fun c_13 => ?_) (fun c_13 => ?_)
        · replace hm := if_t c_13 hm
          refine lv_aload_n hx hb d_Heap_moved_45 rfl (lv_at hl 1 rfl) ?_
          refine lv_iload_n hx hb d_Heap_moved_46 rfl (lv_at hl 0 rfl) ?_
          obtain ⟨i_15, a_16, g_17, k_18, r_19, k_20, h_14, hm, e7, e8⟩ := obG_some hm
          have hFc := x_free hD hS hA
          refine xg_calli (va_runV (As := [.int x_1]) (rest := []) ⟨hx, hb, hml, hown, hts⟩ (x_Heap_movedWord l dC dI cI adK adV adA u o g H.size n h_14) (cwV 1 hts (tw_GV tw_cons cw_Heap_movedWord lk_Heap_162 in_Heap_movedWord sel_Heap_movedWord ini_Heap) rfl rfl rfl ⟨rfl, hd_Heap_movedWord⟩ ⟨Nat.le_of_ble_eq_true rfl, Nat.le_of_ble_eq_true rfl⟩) (xpV hK hP hD hS hE hFc xo_1 rfl) rfl rfl hl.1 rfl (lv_room (Nat.le_of_ble_eq_true rfl)) d_Heap_moved_47 ⟨show kc_11 + k_18.1 ≤ mc by omega, show ks_12 + k_18.2 ≤ ms by omega⟩) hS (fun q _ h => hFc q h) hFc (fun kc_22 ks_23 r9 o_21 t9 H locs ekc eks ht hvm e9 hB hz1 hk1 hS => ?_)
          replace hkc : kc_22 + k_20.1 = mc := by omega
          replace hks : ks_23 + k_20.2 = ms := by omega
          clear e7 e8
          clear ekc eks
          have e9 : r_19 = r9 := e9
          subst e9
          obtain ⟨hP, hD⟩ := x_aftg hB ht hFc
          clear hFc hk1 hz1 hvm hB ht
          obtain ⟨e1, e2, e4, e5, e6, e3⟩ := re5 hm
          obtain ⟨hP, hD⟩ := x_eqg e1 e2 e4 hP hD
          refine W.widen (k := mc) (n := ms) (show kc_22 ≤ mc by omega) (show ks_23 ≤ ms by omega) ?_
          exact W.iret hx hb hr (fun t9 ht hW => ⟨⟨_, o_21, rfl, e3.symm, by rw [ht]; exact hP, hD⟩, hS.F ht⟩) hS.2.2 d_Heap_moved_50
        · replace hm := if_f c_13 hm
          refine lv_aload_n hx hb d_Heap_moved_37 rfl (lv_at hl 1 rfl) ?_
          refine lv_iload_n hx hb d_Heap_moved_38 rfl (lv_at hl 0 rfl) ?_
          obtain ⟨i_25, a_26, g_27, k_28, r_29, k_30, h_24, hm, e7, e8⟩ := obG_some hm
          have hFc := x_free hD hS hA
          refine xg_calli (va_runV (As := [.int x_1]) (rest := []) ⟨hx, hb, hml, hown, hts⟩ (x_Heap_movedList l dC dI cI adK adV adA u o g H.size n h_24) (cwV 1 hts (tw_GV tw_cons cw_Heap_movedList lk_Heap_159 in_Heap_movedList sel_Heap_movedList ini_Heap) rfl rfl rfl ⟨rfl, hd_Heap_movedList⟩ ⟨Nat.le_of_ble_eq_true rfl, Nat.le_of_ble_eq_true rfl⟩) (xpV hK hP hD hS hE hFc xo_1 rfl) rfl rfl hl.1 rfl (lv_room (Nat.le_of_ble_eq_true rfl)) d_Heap_moved_39 ⟨show kc_11 + k_28.1 ≤ mc by omega, show ks_12 + k_28.2 ≤ ms by omega⟩) hS (fun q _ h => hFc q h) hFc (fun kc_32 ks_33 r9 o_31 t9 H locs ekc eks ht hvm e9 hB hz1 hk1 hS => ?_)
          replace hkc : kc_32 + k_30.1 = mc := by omega
          replace hks : ks_33 + k_30.2 = ms := by omega
          clear e7 e8
          clear ekc eks
          have e9 : r_29 = r9 := e9
          subst e9
          obtain ⟨hP, hD⟩ := x_aftg hB ht hFc
          clear hFc hk1 hz1 hvm hB ht
          refine lv_goto (tgt := 50) hx hb d_Heap_moved_42 (by decide) ?_
          obtain ⟨e1, e2, e4, e5, e6, e3⟩ := re5 hm
          obtain ⟨hP, hD⟩ := x_eqg e1 e2 e4 hP hD
          refine W.widen (k := mc) (n := ms) (show kc_32 ≤ mc by omega) (show ks_33 ≤ ms by omega) ?_
          exact W.iret hx hb hr (fun t9 ht hW => ⟨⟨_, o_31, rfl, e3.symm, by rw [ht]; exact hP, hD⟩, hS.F ht⟩) hS.2.2 d_Heap_moved_50
      · replace hm := if_f c_8 hm
        refine lv_iload_n hx hb d_Heap_moved_28 rfl (lv_at hl 2 rfl) ?_
        obtain ⟨e1, e2, e4, e5, e6, e3⟩ := re5 hm
        obtain ⟨hP, hD⟩ := x_eqg e1 e2 e4 hP hD
        refine W.widen (k := mc) (n := ms) (show kc_4 ≤ mc by omega) (show ks_5 ≤ ms by omega) ?_
        exact W.iret hx hb hr (fun t9 ht hW => ⟨⟨_, o, rfl, e3.symm, by rw [ht]; exact hP, hD⟩, hS.F ht⟩) hS.2.2 d_Heap_moved_29

def m_Machine_meetWord (n : Nat) (g : Nat → Nat) (i : Nat → Int32) (a : Nat → Nat → Int32) (v1 : Int32) : Option ((Nat → Int32) × (Nat → Nat → Int32) × Int32) := ob0 (m_Heap_meaning n g i a v1) (fun r_2 => if r_2 = ((86 : Int32)) then ob0 (m_Heap_quoted n g i a v1) (fun r_47 => some (i, a, r_47)) else if r_2 = ((87 : Int32)) then ob0 (m_Heap_behind n g i a v1) (fun r_42 => if r_42 = ((-2147483648 : Int32)) then some (i, a, (-2147483646)) else ob0 (m_Names_find n g i a r_42) (fun r_45 => some (i, a, r_45))) else if r_2 = ((0 : Int32)) then ob (m_Machine_meetProcedure n g i a v1) (fun i_38 a_39 r_40 => some (i_38, a_39, r_40)) else if ((74 : Int32)) < r_2 then if r_2 = ((75 : Int32)) then ob (m_Waiting_meet n g i a (4 : Int32) (75 : Int32) (1 : Int32) (0 : Int32)) (fun i_20 a_21 r_22 => ob (m_Waiting_settleLast n g i_20 a_21) (fun i_24 a_25 r_26 => some (i_24, a_25, r_26))) else if r_2 = ((81 : Int32)) then ob (m_Waiting_meet n g i a (1 : Int32) (25 : Int32) (1 : Int32) (4 : Int32)) (fun i_12 a_13 r_14 => ob (m_Waiting_settleLast n g i_12 a_13) (fun i_16 a_17 r_18 => some (i_16, a_17, r_18))) else if r_2 = ((84 : Int32)) then some (i, a, (-2147483647)) else if r_2 = ((85 : Int32)) then some (i, a, (-2147483647)) else some (i, a, (-2147483644)) else ob0 (m_Lexicon_arity n g i a r_2) (fun r_28 => ob (m_Waiting_meet n g i a (1 : Int32) r_2 r_28 (0 : Int32)) (fun i_30 a_31 r_32 => ob (m_Waiting_settleLast n g i_30 a_31) (fun i_34 a_35 r_36 => some (i_34, a_35, r_36)))))
set_option maxHeartbeats 4000000 in
set_option maxRecDepth 100000 in
theorem x_Machine_meetWord (l : Launch) (dC : Nat → ClassId) (dI : Nat → Nat → Nat) (cI : ClassId) (adK adV adA u o g : Nat → Nat) (sz : Nat) (n : Nat) {i : Nat → Int32} {a : Nat → Nat → Int32} {v1 : Int32} {i2 : Nat → Int32} {a2 : Nat → Nat → Int32} {r2 : Int32} (hm : m_Machine_meetWord n g i a v1 = some (i2, a2, r2)) : Met l y_Machine_meetWord w_Machine_meetWord ({ frames := 4, cells := 0, slots := 0, locals := 92 } : Room) (va_Pc [.ref ((u 11)), .int v1] (xE dC dI cI adK adV adA u o g i a sz)) (va_Qi (xR r2) (xB dC dI cI u o g i2 a2 (va_A (TW cI u o i a g) sz)) (va_A (TW cI u o i a g) sz)) 0 0 ((va_A (TW cI u o i a g) sz)) := by
  refine Met.ofW (cc := b_Machine_meetWord) (maxL := 4) (ret := (some .int)) (by decide) rfl ?_
  intro p e s m args below meth c s₁ B hml hv
  obtain ⟨rfl, hsz, hP, hK, hE, hD0⟩ := hv
  have hx := B.exec
  have hb := B.bytes
  have hr := B.returns
  have hts := atoms_spec (ws := w_Machine_meetWord) B.pre
  have htt : ∀ w ∈ tw_T, w.before _ s = true := fun w h => hts w (List.mem_cons_of_mem _ h)
  have hown : s.vm.findClass R_Machine = some m.cls := findClass_of_methodNamed B.named
  have hlocks := B.notSynchronized
  subst hsz
  have hD := hD0.self (sz := s.heap.size)
  generalize hAe : (va_A (TW cI u o i a g) s.heap.size) = A at hD hE ⊢
  have hA : ∀ q : Nat, s.heap.size ≤ q → A q := fun q h => by rw [← hAe]; exact Or.inr h
  have hS : va_S A s.heap s.heap [] := va_S.rf
  have hl := lv_entry ([.ref ((u 11)), .int v1]) (n := 4) (Nat.le_of_ble_eq_true rfl)
  rw [lg_entry_eq]
  generalize (lg_sl ([.ref ((u 11)), .int v1]) ++ List.replicate (4 - (lg_sl ([.ref ((u 11)), .int v1])).length) Slot.unset).toArray = ls at hl ⊢
  have hl : lv_has ls 4 [(0, .ref ((u 11))), (1, .int v1)] := hl
  rw [m_Machine_meetWord] at hm
  refine lv_aload_n hx hb d_Machine_meetWord_0 rfl (lv_at hl 0 rfl) ?_
  refine va_get (D := (dC, dI)) (ci := 11) (v := .ref ((u 1))) (C := R_Machine) (T := F_Machine) (N := 9) hx hb htt iw_Machine hown hK hP 11 xo_11 rfl 0 (Nat.le_of_ble_eq_true rfl) (htt _ lk_Machine_15) (fun _ h9 => h9) xg_11_0 d_Machine_meetWord_1 ?_
  refine lv_iload_n hx hb d_Machine_meetWord_4 rfl (lv_at hl 1 rfl) ?_
  obtain ⟨r_2, h_1, hm⟩ := ob0_some hm
  have hFc := x_free0 hS hA
  refine va_calli (va_runV (As := [.int v1]) (rest := []) ⟨hx, hb, hml, hown, hts⟩ (x_Heap_meaning l dC dI cI adK adV adA u o g s.heap.size n h_1) (cwV 1 hts (tw_GV tw_cons cw_Heap_meaning lk_Machine_180 in_Heap_meaning sel_Heap_meaning ini_Heap) rfl rfl rfl ⟨rfl, hd_Heap_meaning⟩ ⟨Nat.le_of_ble_eq_true rfl, Nat.le_of_ble_eq_true rfl⟩) (xpVr hK hP hS hE hFc xo_1 rfl) rfl rfl hl.1 rfl (lv_room (Nat.le_of_ble_eq_true rfl)) d_Machine_meetWord_5 ⟨Nat.le_of_ble_eq_true rfl, Nat.le_of_ble_eq_true rfl⟩) hS (fun q _ h => hFc q h) hFc (fun r9 u9 t9 H locs ht hvm e9 hB hz1 hk1 hS => ?_)
  have e9 : r_2 = r9 := e9
  subst e9
  replace hP := x_keep hP hk1
  clear hFc hk1 hz1 hvm hB ht
  refine lv_istore_n (lv' := [(2, .int r_2), (0, .ref ((u 11))), (1, .int v1)]) hx hb d_Machine_meetWord_8 rfl hl (by decide) rfl (fun ls hl => ?_)
  refine lv_iload_n hx hb d_Machine_meetWord_9 rfl (lv_at hl 0 rfl) ?_
  refine lv_bipush (v := 86) hx hb d_Machine_meetWord_10 (by decide) ?_
  refine lv_icmp_ne (tgt := 24) hx hb d_Machine_meetWord_12 (by decide) (fun c_3 => ?_) (fun c_3 => ?_)
  · replace hm := if_f c_3 hm
    refine lv_iload_n hx hb d_Machine_meetWord_24 rfl (lv_at hl 0 rfl) ?_
    refine lv_bipush (v := 87) hx hb d_Machine_meetWord_25 (by decide) ?_
    refine lv_icmp_ne (tgt := 59) hx hb d_Machine_meetWord_27 (by decide) (fun c_4 => ?_) (fun c_4 => ?_)
    · replace hm := if_f c_4 hm
      refine lv_iload_n hx hb d_Machine_meetWord_59 rfl (lv_at hl 0 rfl) ?_
      refine lv_if_ne (tgt := 69) hx hb d_Machine_meetWord_60 (by decide) (fun c_5 => ?_) (fun c_5 => ?_)
      · replace hm := if_f c_5 hm
        refine lv_iload_n hx hb d_Machine_meetWord_69 rfl (lv_at hl 0 rfl) ?_
        refine lv_bipush (v := 74) hx hb d_Machine_meetWord_70 (by decide) ?_
        refine lv_icmp_gt (tgt := 99) hx hb d_Machine_meetWord_72 (by decide) (fun c_6 => ?_) (fun c_6 => ?_)
        · replace hm := if_t c_6 hm
          refine lv_iload_n hx hb d_Machine_meetWord_99 rfl (lv_at hl 0 rfl) ?_
          refine lv_bipush (v := 75) hx hb d_Machine_meetWord_100 (by decide) ?_
          refine lv_icmp_ne (tgt := 120) hx hb d_Machine_meetWord_102 (by decide) (fun c_7 => ?_) (fun c_7 => ?_)
          · replace hm := if_f c_7 hm
            refine lv_iload_n hx hb d_Machine_meetWord_120 rfl (lv_at hl 0 rfl) ?_
            refine lv_bipush (v := 81) hx hb d_Machine_meetWord_121 (by decide) ?_
            refine lv_icmp_ne (tgt := 141) hx hb d_Machine_meetWord_123 (by decide) (fun c_8 => ?_) (fun c_8 => ?_)
            · replace hm := if_f c_8 hm
              refine lv_iload_n hx hb d_Machine_meetWord_141 rfl (lv_at hl 0 rfl) ?_
              refine lv_bipush (v := 84) hx hb d_Machine_meetWord_142 (by decide) ?_
              refine lv_icmp_eq (tgt := 153) hx hb d_Machine_meetWord_144 (by decide) (fun c_9 => ?_) (fun c_9 => ?_)
              · replace hm := if_t c_9 hm
                refine lv_ldc (v := (-2147483647)) hx hb hown (htt _ lk_Machine_208) d_Machine_meetWord_153 ?_
                refine lv_goto (tgt := 160) hx hb d_Machine_meetWord_155 (by decide) ?_
                obtain ⟨e1i, e1a, e3⟩ := re3 hm
                obtain ⟨hP, hD⟩ := x_eq e1i e1a hP hD
                exact W.iret hx hb hr (fun t9 ht hW => ⟨⟨_, (), rfl, e3.symm, by rw [ht]; exact hP, hD⟩, hS.F ht⟩) hS.2.2 d_Machine_meetWord_160
              · replace hm := if_f c_9 hm
                refine lv_iload_n hx hb d_Machine_meetWord_147 rfl (lv_at hl 0 rfl) ?_
                refine lv_bipush (v := 85) hx hb d_Machine_meetWord_148 (by decide) ?_
                refine lv_icmp_ne (tgt := 158) hx hb d_Machine_meetWord_150 (by decide) (fun c_10 => ?_) (fun c_10 => ?_)
                · replace hm := if_f c_10 hm
                  refine lv_ldc (v := (-2147483644)) hx hb hown (htt _ lk_Machine_160) d_Machine_meetWord_158 ?_
                  obtain ⟨e1i, e1a, e3⟩ := re3 hm
                  obtain ⟨hP, hD⟩ := x_eq e1i e1a hP hD
                  exact W.iret hx hb hr (fun t9 ht hW => ⟨⟨_, (), rfl, e3.symm, by rw [ht]; exact hP, hD⟩, hS.F ht⟩) hS.2.2 d_Machine_meetWord_160
                · replace hm := if_t c_10 hm
                  refine lv_ldc (v := (-2147483647)) hx hb hown (htt _ lk_Machine_208) d_Machine_meetWord_153 ?_
                  refine lv_goto (tgt := 160) hx hb d_Machine_meetWord_155 (by decide) ?_
                  obtain ⟨e1i, e1a, e3⟩ := re3 hm
                  obtain ⟨hP, hD⟩ := x_eq e1i e1a hP hD
                  exact W.iret hx hb hr (fun t9 ht hW => ⟨⟨_, (), rfl, e3.symm, by rw [ht]; exact hP, hD⟩, hS.F ht⟩) hS.2.2 d_Machine_meetWord_160
            · replace hm := if_t c_8 hm
              refine lv_aload_n hx hb d_Machine_meetWord_126 rfl (lv_at hl 1 rfl) ?_
              refine va_get (D := (dC, dI)) (ci := 11) (v := .ref ((u 9))) (C := R_Machine) (T := F_Machine) (N := 9) hx hb htt iw_Machine hown hK hP 11 xo_11 rfl 2 (Nat.le_of_ble_eq_true rfl) (htt _ lk_Machine_22) (fun _ h9 => h9) xg_11_2 d_Machine_meetWord_127 ?_
              refine lv_iconst (v := 1) hx hb d_Machine_meetWord_130 (by decide) ?_
              refine lv_bipush (v := 25) hx hb d_Machine_meetWord_131 (by decide) ?_
              refine lv_iconst (v := 1) hx hb d_Machine_meetWord_133 (by decide) ?_
              refine lv_iconst (v := 4) hx hb d_Machine_meetWord_134 (by decide) ?_
              obtain ⟨i_12, a_13, r_14, h_11, hm⟩ := ob_some hm
              have hFc := x_free hD hS hA
              refine va_callv (va_runV (As := [.int 1, .int 25, .int 1, .int 4]) (rest := []) ⟨hx, hb, hml, hown, hts⟩ (x_Waiting_meet l dC dI cI adK adV adA u o g H.size n h_11) (cwV 4 hts (tw_GV tw_cons cw_Waiting_meet lk_Machine_205 in_Waiting_meet sel_Waiting_meet ini_Waiting) rfl rfl rfl ⟨rfl, hd_Waiting_meet⟩ ⟨Nat.le_of_ble_eq_true rfl, Nat.le_of_ble_eq_true rfl⟩) (xpV hK hP hD hS hE hFc xo_9 rfl) rfl rfl hl.1 rfl (lv_room (Nat.le_of_ble_eq_true rfl)) d_Machine_meetWord_135 ⟨Nat.le_of_ble_eq_true rfl, Nat.le_of_ble_eq_true rfl⟩) hS (fun q _ h => hFc q h) hFc (fun u9 t9 H locs ht hvm e9 hB hz1 hk1 hS => ?_)
              obtain ⟨hP, hD⟩ := x_aft hB ht hFc
              clear hFc hk1 hz1 hvm hB ht
              refine lv_goto (tgt := 161) hx hb d_Machine_meetWord_138 (by decide) ?_
              refine lv_aload_n hx hb d_Machine_meetWord_161 rfl (lv_at hl 1 rfl) ?_
              refine va_get (D := (dC, dI)) (ci := 11) (v := .ref ((u 9))) (C := R_Machine) (T := F_Machine) (N := 9) hx hb htt iw_Machine hown hK hP 11 xo_11 rfl 2 (Nat.le_of_ble_eq_true rfl) (htt _ lk_Machine_22) (fun _ h9 => h9) xg_11_2 d_Machine_meetWord_162 ?_
              obtain ⟨i_16, a_17, r_18, h_15, hm⟩ := ob_some hm
              have hFc := x_free hD hS hA
              refine va_calli (va_runV (As := []) (rest := []) ⟨hx, hb, hml, hown, hts⟩ (x_Waiting_settleLast l dC dI cI adK adV adA u o g H.size n h_15) (cwV 0 hts (tw_GV tw_cons cw_Waiting_settleLast lk_Machine_209 in_Waiting_settleLast sel_Waiting_settleLast ini_Waiting) rfl rfl rfl ⟨rfl, hd_Waiting_settleLast⟩ ⟨Nat.le_of_ble_eq_true rfl, Nat.le_of_ble_eq_true rfl⟩) (xpV hK hP hD hS hE hFc xo_9 rfl) rfl rfl hl.1 rfl (lv_room (Nat.le_of_ble_eq_true rfl)) d_Machine_meetWord_165 ⟨Nat.le_of_ble_eq_true rfl, Nat.le_of_ble_eq_true rfl⟩) hS (fun q _ h => hFc q h) hFc (fun r9 u9 t9 H locs ht hvm e9 hB hz1 hk1 hS => ?_)
              have e9 : r_18 = r9 := e9
              subst e9
              obtain ⟨hP, hD⟩ := x_aft hB ht hFc
              clear hFc hk1 hz1 hvm hB ht
              obtain ⟨e1i, e1a, e3⟩ := re3 hm
              obtain ⟨hP, hD⟩ := x_eq e1i e1a hP hD
              exact W.iret hx hb hr (fun t9 ht hW => ⟨⟨_, (), rfl, e3.symm, by rw [ht]; exact hP, hD⟩, hS.F ht⟩) hS.2.2 d_Machine_meetWord_168
          · replace hm := if_t c_7 hm
            refine lv_aload_n hx hb d_Machine_meetWord_105 rfl (lv_at hl 1 rfl) ?_
            refine va_get (D := (dC, dI)) (ci := 11) (v := .ref ((u 9))) (C := R_Machine) (T := F_Machine) (N := 9) hx hb htt iw_Machine hown hK hP 11 xo_11 rfl 2 (Nat.le_of_ble_eq_true rfl) (htt _ lk_Machine_22) (fun _ h9 => h9) xg_11_2 d_Machine_meetWord_106 ?_
            refine lv_iconst (v := 4) hx hb d_Machine_meetWord_109 (by decide) ?_
            refine lv_bipush (v := 75) hx hb d_Machine_meetWord_110 (by decide) ?_
            refine lv_iconst (v := 1) hx hb d_Machine_meetWord_112 (by decide) ?_
            refine lv_iconst (v := 0) hx hb d_Machine_meetWord_113 (by decide) ?_
            obtain ⟨i_20, a_21, r_22, h_19, hm⟩ := ob_some hm
            have hFc := x_free hD hS hA
            refine va_callv (va_runV (As := [.int 4, .int 75, .int 1, .int 0]) (rest := []) ⟨hx, hb, hml, hown, hts⟩ (x_Waiting_meet l dC dI cI adK adV adA u o g H.size n h_19) (cwV 4 hts (tw_GV tw_cons cw_Waiting_meet lk_Machine_205 in_Waiting_meet sel_Waiting_meet ini_Waiting) rfl rfl rfl ⟨rfl, hd_Waiting_meet⟩ ⟨Nat.le_of_ble_eq_true rfl, Nat.le_of_ble_eq_true rfl⟩) (xpV hK hP hD hS hE hFc xo_9 rfl) rfl rfl hl.1 rfl (lv_room (Nat.le_of_ble_eq_true rfl)) d_Machine_meetWord_114 ⟨Nat.le_of_ble_eq_true rfl, Nat.le_of_ble_eq_true rfl⟩) hS (fun q _ h => hFc q h) hFc (fun u9 t9 H locs ht hvm e9 hB hz1 hk1 hS => ?_)
            obtain ⟨hP, hD⟩ := x_aft hB ht hFc
            clear hFc hk1 hz1 hvm hB ht
            refine lv_goto (tgt := 161) hx hb d_Machine_meetWord_117 (by decide) ?_
            refine lv_aload_n hx hb d_Machine_meetWord_161 rfl (lv_at hl 1 rfl) ?_
            refine va_get (D := (dC, dI)) (ci := 11) (v := .ref ((u 9))) (C := R_Machine) (T := F_Machine) (N := 9) hx hb htt iw_Machine hown hK hP 11 xo_11 rfl 2 (Nat.le_of_ble_eq_true rfl) (htt _ lk_Machine_22) (fun _ h9 => h9) xg_11_2 d_Machine_meetWord_162 ?_
            obtain ⟨i_24, a_25, r_26, h_23, hm⟩ := ob_some hm
            have hFc := x_free hD hS hA
            refine va_calli (va_runV (As := []) (rest := []) ⟨hx, hb, hml, hown, hts⟩ (x_Waiting_settleLast l dC dI cI adK adV adA u o g H.size n h_23) (cwV 0 hts (tw_GV tw_cons cw_Waiting_settleLast lk_Machine_209 in_Waiting_settleLast sel_Waiting_settleLast ini_Waiting) rfl rfl rfl ⟨rfl, hd_Waiting_settleLast⟩ ⟨Nat.le_of_ble_eq_true rfl, Nat.le_of_ble_eq_true rfl⟩) (xpV hK hP hD hS hE hFc xo_9 rfl) rfl rfl hl.1 rfl (lv_room (Nat.le_of_ble_eq_true rfl)) d_Machine_meetWord_165 ⟨Nat.le_of_ble_eq_true rfl, Nat.le_of_ble_eq_true rfl⟩) hS (fun q _ h => hFc q h) hFc (fun r9 u9 t9 H locs ht hvm e9 hB hz1 hk1 hS => ?_)
            have e9 : r_26 = r9 := e9
            subst e9
            obtain ⟨hP, hD⟩ := x_aft hB ht hFc
            clear hFc hk1 hz1 hvm hB ht
            obtain ⟨e1i, e1a, e3⟩ := re3 hm
            obtain ⟨hP, hD⟩ := x_eq e1i e1a hP hD
            exact W.iret hx hb hr (fun t9 ht hW => ⟨⟨_, (), rfl, e3.symm, by rw [ht]; exact hP, hD⟩, hS.F ht⟩) hS.2.2 d_Machine_meetWord_168
        · replace hm := if_f c_6 hm
          refine lv_aload_n hx hb d_Machine_meetWord_75 rfl (lv_at hl 1 rfl) ?_
          refine va_get (D := (dC, dI)) (ci := 11) (v := .ref ((u 9))) (C := R_Machine) (T := F_Machine) (N := 9) hx hb htt iw_Machine hown hK hP 11 xo_11 rfl 2 (Nat.le_of_ble_eq_true rfl) (htt _ lk_Machine_22) (fun _ h9 => h9) xg_11_2 d_Machine_meetWord_76 ?_
          refine lv_iconst (v := 1) hx hb d_Machine_meetWord_79 (by decide) ?_
          refine lv_iload_n hx hb d_Machine_meetWord_80 rfl (lv_at hl 0 rfl) ?_
          refine lv_aload_n hx hb d_Machine_meetWord_81 rfl (lv_at hl 1 rfl) ?_
          refine va_get (D := (dC, dI)) (ci := 11) (v := .ref ((u 1))) (C := R_Machine) (T := F_Machine) (N := 9) hx hb htt iw_Machine hown hK hP 11 xo_11 rfl 0 (Nat.le_of_ble_eq_true rfl) (htt _ lk_Machine_15) (fun _ h9 => h9) xg_11_0 d_Machine_meetWord_82 ?_
          refine va_get (D := (dC, dI)) (ci := 1) (v := .ref ((u 2))) (C := R_Heap) (T := F_Heap) (N := 12) hx hb htt iw_Heap hown hK hP 1 xo_1 rfl 0 (Nat.le_of_ble_eq_true rfl) (htt _ lk_Machine_196) (fun _ h9 => h9) xg_1_0 d_Machine_meetWord_85 ?_
          refine lv_iload_n hx hb d_Machine_meetWord_88 rfl (lv_at hl 0 rfl) ?_
          obtain ⟨r_28, h_27, hm⟩ := ob0_some hm
          have hFc := x_free0 hS hA
          refine va_calli (va_runV (As := [.int r_2]) (rest := [.int r_2, .int 1, .ref ((u 9))]) ⟨hx, hb, hml, hown, hts⟩ (x_Lexicon_arity l dC dI cI adK adV adA u o g H.size n h_27) (cwV 1 hts (tw_GV tw_cons cw_Lexicon_arity lk_Machine_200 in_Lexicon_arity sel_Lexicon_arity ini_Lexicon) rfl rfl rfl ⟨rfl, hd_Lexicon_arity⟩ ⟨Nat.le_of_ble_eq_true rfl, Nat.le_of_ble_eq_true rfl⟩) (xpVr hK hP hS hE hFc xo_2 rfl) rfl rfl hl.1 rfl (lv_room (Nat.le_of_ble_eq_true rfl)) d_Machine_meetWord_89 ⟨Nat.le_of_ble_eq_true rfl, Nat.le_of_ble_eq_true rfl⟩) hS (fun q _ h => hFc q h) hFc (fun r9 u9 t9 H locs ht hvm e9 hB hz1 hk1 hS => ?_)
          have e9 : r_28 = r9 := e9
          subst e9
          replace hP := x_keep hP hk1
          clear hFc hk1 hz1 hvm hB ht
          refine lv_iconst (v := 0) hx hb d_Machine_meetWord_92 (by decide) ?_
          obtain ⟨i_30, a_31, r_32, h_29, hm⟩ := ob_some hm
          have hFc := x_free hD hS hA
          refine va_callv (va_runV (As := [.int 1, .int r_2, .int r_28, .int 0]) (rest := []) ⟨hx, hb, hml, hown, hts⟩ (x_Waiting_meet l dC dI cI adK adV adA u o g H.size n h_29) (cwV 4 hts (tw_GV tw_cons cw_Waiting_meet lk_Machine_205 in_Waiting_meet sel_Waiting_meet ini_Waiting) rfl rfl rfl ⟨rfl, hd_Waiting_meet⟩ ⟨Nat.le_of_ble_eq_true rfl, Nat.le_of_ble_eq_true rfl⟩) (xpV hK hP hD hS hE hFc xo_9 rfl) rfl rfl hl.1 rfl (lv_room (Nat.le_of_ble_eq_true rfl)) d_Machine_meetWord_93 ⟨Nat.le_of_ble_eq_true rfl, Nat.le_of_ble_eq_true rfl⟩) hS (fun q _ h => hFc q h) hFc (fun u9 t9 H locs ht hvm e9 hB hz1 hk1 hS => ?_)
          obtain ⟨hP, hD⟩ := x_aft hB ht hFc
          clear hFc hk1 hz1 hvm hB ht
          refine lv_goto (tgt := 161) hx hb d_Machine_meetWord_96 (by decide) ?_
          refine lv_aload_n hx hb d_Machine_meetWord_161 rfl (lv_at hl 1 rfl) ?_
          refine va_get (D := (dC, dI)) (ci := 11) (v := .ref ((u 9))) (C := R_Machine) (T := F_Machine) (N := 9) hx hb htt iw_Machine hown hK hP 11 xo_11 rfl 2 (Nat.le_of_ble_eq_true rfl) (htt _ lk_Machine_22) (fun _ h9 => h9) xg_11_2 d_Machine_meetWord_162 ?_
          obtain ⟨i_34, a_35, r_36, h_33, hm⟩ := ob_some hm
          have hFc := x_free hD hS hA
          refine va_calli (va_runV (As := []) (rest := []) ⟨hx, hb, hml, hown, hts⟩ (x_Waiting_settleLast l dC dI cI adK adV adA u o g H.size n h_33) (cwV 0 hts (tw_GV tw_cons cw_Waiting_settleLast lk_Machine_209 in_Waiting_settleLast sel_Waiting_settleLast ini_Waiting) rfl rfl rfl ⟨rfl, hd_Waiting_settleLast⟩ ⟨Nat.le_of_ble_eq_true rfl, Nat.le_of_ble_eq_true rfl⟩) (xpV hK hP hD hS hE hFc xo_9 rfl) rfl rfl hl.1 rfl (lv_room (Nat.le_of_ble_eq_true rfl)) d_Machine_meetWord_165 ⟨Nat.le_of_ble_eq_true rfl, Nat.le_of_ble_eq_true rfl⟩) hS (fun q _ h => hFc q h) hFc (fun r9 u9 t9 H locs ht hvm e9 hB hz1 hk1 hS => ?_)
          have e9 : r_36 = r9 := e9
          subst e9
          obtain ⟨hP, hD⟩ := x_aft hB ht hFc
          clear hFc hk1 hz1 hvm hB ht
          obtain ⟨e1i, e1a, e3⟩ := re3 hm
          obtain ⟨hP, hD⟩ := x_eq e1i e1a hP hD
          exact W.iret hx hb hr (fun t9 ht hW => ⟨⟨_, (), rfl, e3.symm, by rw [ht]; exact hP, hD⟩, hS.F ht⟩) hS.2.2 d_Machine_meetWord_168
      · replace hm := if_t c_5 hm
        refine lv_aload_n hx hb d_Machine_meetWord_63 rfl (lv_at hl 1 rfl) ?_
        refine lv_iload_n hx hb d_Machine_meetWord_64 rfl (lv_at hl 2 rfl) ?_
        obtain ⟨i_38, a_39, r_40, h_37, hm⟩ := ob_some hm
        have hFc := x_free hD hS hA
        refine va_calli (va_runV (As := [.int v1]) (rest := []) ⟨hx, hb, hml, hown, hts⟩ (x_Machine_meetProcedure l dC dI cI adK adV adA u o g H.size n h_37) (cwV 1 hts (tw_GV tw_cons cw_Machine_meetProcedure lk_Machine_193 in_Machine_meetProcedure sel_Machine_meetProcedure ini_Machine) rfl rfl rfl ⟨rfl, hd_Machine_meetProcedure⟩ ⟨Nat.le_of_ble_eq_true rfl, Nat.le_of_ble_eq_true rfl⟩) (xpV hK hP hD hS hE hFc xo_11 rfl) rfl rfl hl.1 rfl (lv_room (Nat.le_of_ble_eq_true rfl)) d_Machine_meetWord_65 ⟨Nat.le_of_ble_eq_true rfl, Nat.le_of_ble_eq_true rfl⟩) hS (fun q _ h => hFc q h) hFc (fun r9 u9 t9 H locs ht hvm e9 hB hz1 hk1 hS => ?_)
        have e9 : r_40 = r9 := e9
        subst e9
        obtain ⟨hP, hD⟩ := x_aft hB ht hFc
        clear hFc hk1 hz1 hvm hB ht
        obtain ⟨e1i, e1a, e3⟩ := re3 hm
        obtain ⟨hP, hD⟩ := x_eq e1i e1a hP hD
        exact W.iret hx hb hr (fun t9 ht hW => ⟨⟨_, (), rfl, e3.symm, by rw [ht]; exact hP, hD⟩, hS.F ht⟩) hS.2.2 d_Machine_meetWord_68
    · replace hm := if_t c_4 hm
      refine lv_aload_n hx hb d_Machine_meetWord_30 rfl (lv_at hl 1 rfl) ?_
      refine va_get (D := (dC, dI)) (ci := 11) (v := .ref ((u 1))) (C := R_Machine) (T := F_Machine) (N := 9) hx hb htt iw_Machine hown hK hP 11 xo_11 rfl 0 (Nat.le_of_ble_eq_true rfl) (htt _ lk_Machine_15) (fun _ h9 => h9) xg_11_0 d_Machine_meetWord_31 ?_
      refine lv_iload_n hx hb d_Machine_meetWord_34 rfl (lv_at hl 2 rfl) ?_
      obtain ⟨r_42, h_41, hm⟩ := ob0_some hm
      have hFc := x_free0 hS hA
      refine va_calli (va_runV (As := [.int v1]) (rest := []) ⟨hx, hb, hml, hown, hts⟩ (x_Heap_behind l dC dI cI adK adV adA u o g H.size n h_41) (cwV 1 hts (tw_GV tw_cons cw_Heap_behind lk_Machine_186 in_Heap_behind sel_Heap_behind ini_Heap) rfl rfl rfl ⟨rfl, hd_Heap_behind⟩ ⟨Nat.le_of_ble_eq_true rfl, Nat.le_of_ble_eq_true rfl⟩) (xpVr hK hP hS hE hFc xo_1 rfl) rfl rfl hl.1 rfl (lv_room (Nat.le_of_ble_eq_true rfl)) d_Machine_meetWord_35 ⟨Nat.le_of_ble_eq_true rfl, Nat.le_of_ble_eq_true rfl⟩) hS (fun q _ h => hFc q h) hFc (fun r9 u9 t9 H locs ht hvm e9 hB hz1 hk1 hS => ?_)
      have e9 : r_42 = r9 := e9
      subst e9
      replace hP := x_keep hP hk1
      clear hFc hk1 hz1 hvm hB ht
      refine lv_istore_n (lv' := [(3, .int r_42), (2, .int r_2), (0, .ref ((u 11))), (1, .int v1)]) hx hb d_Machine_meetWord_38 rfl hl (by decide) rfl (fun ls hl => ?_)
      refine lv_iload_n hx hb d_Machine_meetWord_39 rfl (lv_at hl 0 rfl) ?_
      refine lv_ldc (v := (-2147483648)) hx hb hown (htt _ lk_Machine_114) d_Machine_meetWord_40 ?_
      refine lv_icmp_ne (tgt := 50) hx hb d_Machine_meetWord_42 (by decide) (fun c_43 => ?_) (fun c_43 => ?_)
      · replace hm := if_f c_43 hm
        refine lv_aload_n hx hb d_Machine_meetWord_50 rfl (lv_at hl 2 rfl) ?_
        refine va_get (D := (dC, dI)) (ci := 11) (v := .ref ((u 3))) (C := R_Machine) (T := F_Machine) (N := 9) hx hb htt iw_Machine hown hK hP 11 xo_11 rfl 3 (Nat.le_of_ble_eq_true rfl) (htt _ lk_Machine_26) (fun _ h9 => h9) xg_11_3 d_Machine_meetWord_51 ?_
        refine lv_iload_n hx hb d_Machine_meetWord_54 rfl (lv_at hl 0 rfl) ?_
        obtain ⟨r_45, h_44, hm⟩ := ob0_some hm
        have hFc := x_free0 hS hA
        refine va_calli (va_runV (As := [.int r_42]) (rest := []) ⟨hx, hb, hml, hown, hts⟩ (x_Names_find l dC dI cI adK adV adA u o g H.size n h_44) (cwV 1 hts (tw_GV tw_cons cw_Names_find lk_Machine_190 in_Names_find sel_Names_find ini_Names) rfl rfl rfl ⟨rfl, hd_Names_find⟩ ⟨Nat.le_of_ble_eq_true rfl, Nat.le_of_ble_eq_true rfl⟩) (xpVr hK hP hS hE hFc xo_3 rfl) rfl rfl hl.1 rfl (lv_room (Nat.le_of_ble_eq_true rfl)) d_Machine_meetWord_55 ⟨Nat.le_of_ble_eq_true rfl, Nat.le_of_ble_eq_true rfl⟩) hS (fun q _ h => hFc q h) hFc (fun r9 u9 t9 H locs ht hvm e9 hB hz1 hk1 hS => ?_)
        have e9 : r_45 = r9 := e9
        subst e9
        replace hP := x_keep hP hk1
        clear hFc hk1 hz1 hvm hB ht
        obtain ⟨e1i, e1a, e3⟩ := re3 hm
        obtain ⟨hP, hD⟩ := x_eq e1i e1a hP hD
        exact W.iret hx hb hr (fun t9 ht hW => ⟨⟨_, (), rfl, e3.symm, by rw [ht]; exact hP, hD⟩, hS.F ht⟩) hS.2.2 d_Machine_meetWord_58
      · replace hm := if_t c_43 hm
        refine lv_ldc (v := (-2147483646)) hx hb hown (htt _ lk_Machine_189) d_Machine_meetWord_45 ?_
        refine lv_goto (tgt := 58) hx hb d_Machine_meetWord_47 (by decide) ?_
        obtain ⟨e1i, e1a, e3⟩ := re3 hm
        obtain ⟨hP, hD⟩ := x_eq e1i e1a hP hD
        exact W.iret hx hb hr (fun t9 ht hW => ⟨⟨_, (), rfl, e3.symm, by rw [ht]; exact hP, hD⟩, hS.F ht⟩) hS.2.2 d_Machine_meetWord_58
  · replace hm := if_t c_3 hm
    refine lv_aload_n hx hb d_Machine_meetWord_15 rfl (lv_at hl 1 rfl) ?_
    refine va_get (D := (dC, dI)) (ci := 11) (v := .ref ((u 1))) (C := R_Machine) (T := F_Machine) (N := 9) hx hb htt iw_Machine hown hK hP 11 xo_11 rfl 0 (Nat.le_of_ble_eq_true rfl) (htt _ lk_Machine_15) (fun _ h9 => h9) xg_11_0 d_Machine_meetWord_16 ?_
    refine lv_iload_n hx hb d_Machine_meetWord_19 rfl (lv_at hl 2 rfl) ?_
    obtain ⟨r_47, h_46, hm⟩ := ob0_some hm
    have hFc := x_free0 hS hA
    refine va_calli (va_runV (As := [.int v1]) (rest := []) ⟨hx, hb, hml, hown, hts⟩ (x_Heap_quoted l dC dI cI adK adV adA u o g H.size n h_46) (cwV 1 hts (tw_GV tw_cons cw_Heap_quoted lk_Machine_183 in_Heap_quoted sel_Heap_quoted ini_Heap) rfl rfl rfl ⟨rfl, hd_Heap_quoted⟩ ⟨Nat.le_of_ble_eq_true rfl, Nat.le_of_ble_eq_true rfl⟩) (xpVr hK hP hS hE hFc xo_1 rfl) rfl rfl hl.1 rfl (lv_room (Nat.le_of_ble_eq_true rfl)) d_Machine_meetWord_20 ⟨Nat.le_of_ble_eq_true rfl, Nat.le_of_ble_eq_true rfl⟩) hS (fun q _ h => hFc q h) hFc (fun r9 u9 t9 H locs ht hvm e9 hB hz1 hk1 hS => ?_)
    have e9 : r_47 = r9 := e9
    subst e9
    replace hP := x_keep hP hk1
    clear hFc hk1 hz1 hvm hB ht
    obtain ⟨e1i, e1a, e3⟩ := re3 hm
    obtain ⟨hP, hD⟩ := x_eq e1i e1a hP hD
    exact W.iret hx hb hr (fun t9 ht hW => ⟨⟨_, (), rfl, e3.symm, by rw [ht]; exact hP, hD⟩, hS.F ht⟩) hS.2.2 d_Machine_meetWord_23

def m_Machine_signAhead_b45 (n : Nat) (g : Nat → Nat) (i : Nat → Int32) (a : Nat → Nat → Int32) (s0 : Int32) : Option (Int32) := if s0 < ((77 : Int32)) then some ((-1)) else if ((83 : Int32)) < s0 then some ((-1)) else some (s0 - 77)
set_option maxHeartbeats 4000000 in
set_option maxRecDepth 100000 in
theorem lb_Machine_signAhead_45 (l : Launch) (dC : Nat → ClassId) (dI : Nat → Nat → Nat) (cI : ClassId) (adK adV adA u o g : Nat → Nat) (n : Nat) {p : Program} {e : Env} {s : State} {m : MethodId} {args : Array Value} {below : List Frame} {meth : Method} {c : Code} {A : Nat → Prop} (hx : p.tables.exec = Jvm.exec) (hb : c.code = b_Machine_signAhead) (hml : c.maxLocals = 4) (hown : s.vm.findClass R_Machine = some m.cls) (hts : ∀ w ∈ w_Machine_signAhead, w.before args s = true) (hK : va_K (dC, dI) classes [(cI, .int)] s) (hE : tw_E adK adV adA A s s.heap) (hA : ∀ q : Nat, s.heap.size ≤ q → A q) (hr : meth.sig.returnType = (some .int)) (hlocks : meth.locks = false) {i : Nat → Int32} {a : Nat → Nat → Int32} {r2 : Int32} (s0 : Int32) (hm : m_Machine_signAhead_b45 n g i a s0 = some r2) : ∀ (H : Heap) (locs : List Loc) (ls : Array Slot), va_P (dC, dI) classes (TW cI u o i a g) H → va_S A s.heap H locs → lv_has ls 4 [] → W p l e ({ frames := 4, cells := 0, slots := 0, locals := 92 } : Room) s m args below meth c H locs 0 0 (MQ below (va_Qi (xR r2) xT A) args s 0 0 A) (F0 m 45 ls [.int s0]) := by
  have htt : ∀ w ∈ tw_T, w.before _ s = true := fun w h => hts w (List.mem_cons_of_mem _ h)
  intro H locs ls hP hS hl
  rw [m_Machine_signAhead_b45] at hm
  refine lv_istore_n (lv' := [(3, .int s0)]) hx hb d_Machine_signAhead_45 rfl hl (by decide) rfl (fun ls hl => ?_)
  refine lv_iload_n hx hb d_Machine_signAhead_46 rfl (lv_at hl 0 rfl) ?_
  refine lv_bipush (v := 77) hx hb d_Machine_signAhead_47 (by decide) ?_
  refine lv_icmp_lt (tgt := 65) hx hb d_Machine_signAhead_49 (by decide) (fun c_1 => ?_) (fun c_1 => ?_)
  · replace hm := if_t c_1 hm
    refine lv_iconst (v := -1) hx hb d_Machine_signAhead_65 (by decide) ?_
    have e3 := re1 hm
    exact W.iret hx hb hr (fun t9 ht hW => ⟨⟨_, (), rfl, e3.symm, trivial⟩, hS.F ht⟩) hS.2.2 d_Machine_signAhead_66
  · replace hm := if_f c_1 hm
    refine lv_iload_n hx hb d_Machine_signAhead_52 rfl (lv_at hl 0 rfl) ?_
    refine lv_bipush (v := 83) hx hb d_Machine_signAhead_53 (by decide) ?_
    refine lv_icmp_gt (tgt := 65) hx hb d_Machine_signAhead_55 (by decide) (fun c_2 => ?_) (fun c_2 => ?_)
    · replace hm := if_t c_2 hm
      refine lv_iconst (v := -1) hx hb d_Machine_signAhead_65 (by decide) ?_
      have e3 := re1 hm
      exact W.iret hx hb hr (fun t9 ht hW => ⟨⟨_, (), rfl, e3.symm, trivial⟩, hS.F ht⟩) hS.2.2 d_Machine_signAhead_66
    · replace hm := if_f c_2 hm
      refine lv_iload_n hx hb d_Machine_signAhead_58 rfl (lv_at hl 0 rfl) ?_
      refine lv_bipush (v := 77) hx hb d_Machine_signAhead_59 (by decide) ?_
      refine lv_isub hx hb d_Machine_signAhead_61 ?_
      refine lv_goto (tgt := 66) hx hb d_Machine_signAhead_62 (by decide) ?_
      have e3 := re1 hm
      exact W.iret hx hb hr (fun t9 ht hW => ⟨⟨_, (), rfl, e3.symm, trivial⟩, hS.F ht⟩) hS.2.2 d_Machine_signAhead_66
def m_Machine_signAhead (n : Nat) (g : Nat → Nat) (i : Nat → Int32) (a : Nat → Nat → Int32) (v1 : Int32) : Option (Int32) := ck v1 150 (ck v1 150 (ob0 (m_Heap_member n g i a (a 38 v1.toNatClampNeg) (a 39 v1.toNatClampNeg)) (fun r_4 => ob0 (m_Heap_isWord n r_4) (fun r_6 => if r_6 = ((0 : Int32)) then m_Machine_signAhead_b45 n g i a (0 : Int32) else ob0 (m_Heap_meaning n g i a r_4) (fun r_9 => m_Machine_signAhead_b45 n g i a r_9)))))
set_option maxHeartbeats 4000000 in
set_option maxRecDepth 100000 in
theorem x_Machine_signAhead (l : Launch) (dC : Nat → ClassId) (dI : Nat → Nat → Nat) (cI : ClassId) (adK adV adA u o g : Nat → Nat) (sz : Nat) (n : Nat) {i : Nat → Int32} {a : Nat → Nat → Int32} {v1 : Int32} {r2 : Int32} (hm : m_Machine_signAhead n g i a v1 = some r2) : Met l y_Machine_signAhead w_Machine_signAhead ({ frames := 4, cells := 0, slots := 0, locals := 92 } : Room) (va_Pc [.ref ((u 11)), .int v1] (xEr dC dI cI adK adV adA u o g i a sz)) (va_Qi (xR r2) xT (xN sz)) 0 0 (xN sz) := by
  refine Met.ofW (cc := b_Machine_signAhead) (maxL := 4) (ret := (some .int)) (by decide) rfl ?_
  intro p e s m args below meth c s₁ B hml hv
  obtain ⟨rfl, hsz, hP, hK, hE⟩ := hv
  have hx := B.exec
  have hb := B.bytes
  have hr := B.returns
  have hts := atoms_spec (ws := w_Machine_signAhead) B.pre
  have htt : ∀ w ∈ tw_T, w.before _ s = true := fun w h => hts w (List.mem_cons_of_mem _ h)
  have hown : s.vm.findClass R_Machine = some m.cls := findClass_of_methodNamed B.named
  have hlocks := B.notSynchronized
  subst hsz
  generalize hAe : xN s.heap.size = A at hE ⊢
  have hA : ∀ q : Nat, s.heap.size ≤ q → A q := fun q h => by rw [← hAe]; exact Or.inr h
  have hS : va_S A s.heap s.heap [] := va_S.rf
  have hl := lv_entry ([.ref ((u 11)), .int v1]) (n := 4) (Nat.le_of_ble_eq_true rfl)
  rw [lg_entry_eq]
  generalize (lg_sl ([.ref ((u 11)), .int v1]) ++ List.replicate (4 - (lg_sl ([.ref ((u 11)), .int v1])).length) Slot.unset).toArray = ls at hl ⊢
  have hl : lv_has ls 4 [(0, .ref ((u 11))), (1, .int v1)] := hl
  rw [m_Machine_signAhead] at hm
  refine lv_aload_n hx hb d_Machine_signAhead_0 rfl (lv_at hl 0 rfl) ?_
  refine va_get (D := (dC, dI)) (ci := 11) (v := .ref ((u 1))) (C := R_Machine) (T := F_Machine) (N := 9) hx hb htt iw_Machine hown hK hP 11 xo_11 rfl 0 (Nat.le_of_ble_eq_true rfl) (htt _ lk_Machine_15) (fun _ h9 => h9) xg_11_0 d_Machine_signAhead_1 ?_
  refine lv_aload_n hx hb d_Machine_signAhead_4 rfl (lv_at hl 0 rfl) ?_
  refine va_get (D := (dC, dI)) (ci := 11) (v := .ref ((u 8))) (C := R_Machine) (T := F_Machine) (N := 9) hx hb htt iw_Machine hown hK hP 11 xo_11 rfl 1 (Nat.le_of_ble_eq_true rfl) (htt _ lk_Machine_18) (fun _ h9 => h9) xg_11_1 d_Machine_signAhead_5 ?_
  refine va_get (D := (dC, dI)) (ci := 8) (v := .ref ((u 48))) (C := R_Line) (T := F_Line) (N := 18) hx hb htt iw_Line hown hK hP 8 xo_8 rfl 9 (Nat.le_of_ble_eq_true rfl) (htt _ lk_Machine_161) (fun _ h9 => h9) xg_8_9 d_Machine_signAhead_8 ?_
  refine lv_iload_n hx hb d_Machine_signAhead_11 rfl (lv_at hl 1 rfl) ?_
  obtain ⟨h_1, hm⟩ := ck_some hm
  refine va_iald hx hb hK hP 50 0 twA_38 rfl h_1 d_Machine_signAhead_12 ?_
  refine lv_aload_n hx hb d_Machine_signAhead_13 rfl (lv_at hl 0 rfl) ?_
  refine va_get (D := (dC, dI)) (ci := 11) (v := .ref ((u 8))) (C := R_Machine) (T := F_Machine) (N := 9) hx hb htt iw_Machine hown hK hP 11 xo_11 rfl 1 (Nat.le_of_ble_eq_true rfl) (htt _ lk_Machine_18) (fun _ h9 => h9) xg_11_1 d_Machine_signAhead_14 ?_
  refine va_get (D := (dC, dI)) (ci := 8) (v := .ref ((u 49))) (C := R_Line) (T := F_Line) (N := 18) hx hb htt iw_Line hown hK hP 8 xo_8 rfl 10 (Nat.le_of_ble_eq_true rfl) (htt _ lk_Machine_164) (fun _ h9 => h9) xg_8_10 d_Machine_signAhead_17 ?_
  refine lv_iload_n hx hb d_Machine_signAhead_20 rfl (lv_at hl 1 rfl) ?_
  obtain ⟨h_2, hm⟩ := ck_some hm
  refine va_iald hx hb hK hP 51 0 twA_39 rfl h_2 d_Machine_signAhead_21 ?_
  obtain ⟨r_4, h_3, hm⟩ := ob0_some hm
  have hFc := x_free0 hS hA
  refine va_calli (va_runV (As := [.int (a 38 v1.toNatClampNeg), .int (a 39 v1.toNatClampNeg)]) (rest := []) ⟨hx, hb, hml, hown, hts⟩ (x_Heap_member l dC dI cI adK adV adA u o g s.heap.size n h_3) (cwV 2 hts (tw_GV tw_cons cw_Heap_member lk_Machine_167 in_Heap_member sel_Heap_member ini_Heap) rfl rfl rfl ⟨rfl, hd_Heap_member⟩ ⟨Nat.le_of_ble_eq_true rfl, Nat.le_of_ble_eq_true rfl⟩) (xpVr hK hP hS hE hFc xo_1 rfl) rfl rfl hl.1 rfl (lv_room (Nat.le_of_ble_eq_true rfl)) d_Machine_signAhead_22 ⟨Nat.le_of_ble_eq_true rfl, Nat.le_of_ble_eq_true rfl⟩) hS (fun q _ h => hFc q h) hFc (fun r9 u9 t9 H locs ht hvm e9 hB hz1 hk1 hS => ?_)
  have e9 : r_4 = r9 := e9
  subst e9
  replace hP := x_keep hP hk1
  clear hFc hk1 hz1 hvm hB ht
  refine lv_istore_n (lv' := [(2, .int r_4), (0, .ref ((u 11))), (1, .int v1)]) hx hb d_Machine_signAhead_25 rfl hl (by decide) rfl (fun ls hl => ?_)
  refine lv_iload_n hx hb d_Machine_signAhead_26 rfl (lv_at hl 0 rfl) ?_
  obtain ⟨r_6, h_5, hm⟩ := ob0_some hm
  have hFc := x_free0 hS hA
  refine va_calli (va_runS (As := [.int r_4]) (rest := []) ⟨hx, hb, hml, hown, hts⟩ (x_Heap_isWord l H.size n h_5) (va_cwS 1 hts (tw_GS tw_cons cw_Heap_isWord lk_Machine_173 st_Heap_isWord ini_Heap) rfl rfl rfl hd_Heap_isWord ⟨Nat.le_of_ble_eq_true rfl, Nat.le_of_ble_eq_true rfl⟩) xpS0 rfl rfl hl.1 rfl (lv_room (Nat.le_of_ble_eq_true rfl)) d_Machine_signAhead_27 ⟨Nat.le_of_ble_eq_true rfl, Nat.le_of_ble_eq_true rfl⟩) hS (fun q _ h => hFc q h) hFc (fun r9 u9 t9 H locs ht hvm e9 hB hz1 hk1 hS => ?_)
  have e9 : r_6 = r9 := e9
  subst e9
  replace hP := x_keep hP hk1
  clear hFc hk1 hz1 hvm hB ht
  refine lv_if_eq (tgt := 44) hx hb d_Machine_signAhead_30 (by decide) (fun c_7 => ?_) (fun c_7 => ?_)
  · replace hm := if_t c_7 hm
    refine lv_iconst (v := 0) hx hb d_Machine_signAhead_44 (by decide) ?_
    exact lb_Machine_signAhead_45 l dC dI cI adK adV adA u o g n hx hb hml hown hts hK hE hA hr hlocks _ hm _ _ _ hP hS (lv_sub hl [] rfl)
  · replace hm := if_f c_7 hm
    refine lv_aload_n hx hb d_Machine_signAhead_33 rfl (lv_at hl 1 rfl) ?_
    refine va_get (D := (dC, dI)) (ci := 11) (v := .ref ((u 1))) (C := R_Machine) (T := F_Machine) (N := 9) hx hb htt iw_Machine hown hK hP 11 xo_11 rfl 0 (Nat.le_of_ble_eq_true rfl) (htt _ lk_Machine_15) (fun _ h9 => h9) xg_11_0 d_Machine_signAhead_34 ?_
    refine lv_iload_n hx hb d_Machine_signAhead_37 rfl (lv_at hl 0 rfl) ?_
    obtain ⟨r_9, h_8, hm⟩ := ob0_some hm
    have hFc := x_free0 hS hA
    refine va_calli (va_runV (As := [.int r_4]) (rest := []) ⟨hx, hb, hml, hown, hts⟩ (x_Heap_meaning l dC dI cI adK adV adA u o g H.size n h_8) (cwV 1 hts (tw_GV tw_cons cw_Heap_meaning lk_Machine_180 in_Heap_meaning sel_Heap_meaning ini_Heap) rfl rfl rfl ⟨rfl, hd_Heap_meaning⟩ ⟨Nat.le_of_ble_eq_true rfl, Nat.le_of_ble_eq_true rfl⟩) (xpVr hK hP hS hE hFc xo_1 rfl) rfl rfl hl.1 rfl (lv_room (Nat.le_of_ble_eq_true rfl)) d_Machine_signAhead_38 ⟨Nat.le_of_ble_eq_true rfl, Nat.le_of_ble_eq_true rfl⟩) hS (fun q _ h => hFc q h) hFc (fun r9 u9 t9 H locs ht hvm e9 hB hz1 hk1 hS => ?_)
    have e9 : r_9 = r9 := e9
    subst e9
    replace hP := x_keep hP hk1
    clear hFc hk1 hz1 hvm hB ht
    refine lv_goto (tgt := 45) hx hb d_Machine_signAhead_41 (by decide) ?_
    exact lb_Machine_signAhead_45 l dC dI cI adK adV adA u o g n hx hb hml hown hts hK hE hA hr hlocks _ hm _ _ _ hP hS (lv_sub hl [] rfl)

def m_Machine_closeParen (n : Nat) (g : Nat → Nat) (i : Nat → Int32) (a : Nat → Nat → Int32) (v1 : Int32) (v2 : Int32) : Option ((Nat → Int32) × (Nat → Nat → Int32) × Int32) := ck v1 150 (ck v1 150 (ob0 (m_Heap_member n g i a (a 38 v1.toNatClampNeg) (a 39 v1.toNatClampNeg)) (fun r_4 => ob0 (m_Heap_isWord n r_4) (fun r_6 => if r_6 = ((0 : Int32)) then some (i, a, (-2147483644)) else ob0 (m_Heap_meaning n g i a r_4) (fun r_9 => if r_9 = ((76 : Int32)) then ck v1 150 (ck v1 150 (ob1 (sv a 39 v1.toNatClampNeg ((a 39 v1.toNatClampNeg) + 1) : Nat → Nat → Int32) (fun a_13 => ob1 (upd i 42 v2 : Nat → Int32) (fun i_14 => some (i_14, a_13, (-2147483584)))))) else some (i, a, (-2147483644)))))))
set_option maxHeartbeats 4000000 in
set_option maxRecDepth 100000 in
theorem x_Machine_closeParen (l : Launch) (dC : Nat → ClassId) (dI : Nat → Nat → Nat) (cI : ClassId) (adK adV adA u o g : Nat → Nat) (sz : Nat) (n : Nat) {i : Nat → Int32} {a : Nat → Nat → Int32} {v1 : Int32} {v2 : Int32} {i2 : Nat → Int32} {a2 : Nat → Nat → Int32} {r2 : Int32} (hm : m_Machine_closeParen n g i a v1 v2 = some (i2, a2, r2)) : Met l y_Machine_closeParen w_Machine_closeParen ({ frames := 4, cells := 0, slots := 0, locals := 92 } : Room) (va_Pc [.ref ((u 11)), .int v1, .int v2] (xE dC dI cI adK adV adA u o g i a sz)) (va_Qi (xR r2) (xB dC dI cI u o g i2 a2 (va_A (TW cI u o i a g) sz)) (va_A (TW cI u o i a g) sz)) 0 0 ((va_A (TW cI u o i a g) sz)) := by
  refine Met.ofW (cc := b_Machine_closeParen) (maxL := 4) (ret := (some .int)) (by decide) rfl ?_
  intro p e s m args below meth c s₁ B hml hv
  obtain ⟨rfl, hsz, hP, hK, hE, hD0⟩ := hv
  have hx := B.exec
  have hb := B.bytes
  have hr := B.returns
  have hts := atoms_spec (ws := w_Machine_closeParen) B.pre
  have htt : ∀ w ∈ tw_T, w.before _ s = true := fun w h => hts w (List.mem_cons_of_mem _ h)
  have hown : s.vm.findClass R_Machine = some m.cls := findClass_of_methodNamed B.named
  have hlocks := B.notSynchronized
  subst hsz
  have hD := hD0.self (sz := s.heap.size)
  generalize hAe : (va_A (TW cI u o i a g) s.heap.size) = A at hD hE ⊢
  have hA : ∀ q : Nat, s.heap.size ≤ q → A q := fun q h => by rw [← hAe]; exact Or.inr h
  have hS : va_S A s.heap s.heap [] := va_S.rf
  have hl := lv_entry ([.ref ((u 11)), .int v1, .int v2]) (n := 4) (Nat.le_of_ble_eq_true rfl)
  rw [lg_entry_eq]
  generalize (lg_sl ([.ref ((u 11)), .int v1, .int v2]) ++ List.replicate (4 - (lg_sl ([.ref ((u 11)), .int v1, .int v2])).length) Slot.unset).toArray = ls at hl ⊢
  have hl : lv_has ls 4 [(0, .ref ((u 11))), (1, .int v1), (2, .int v2)] := hl
  rw [m_Machine_closeParen] at hm
  refine lv_aload_n hx hb d_Machine_closeParen_0 rfl (lv_at hl 0 rfl) ?_
  refine va_get (D := (dC, dI)) (ci := 11) (v := .ref ((u 1))) (C := R_Machine) (T := F_Machine) (N := 9) hx hb htt iw_Machine hown hK hP 11 xo_11 rfl 0 (Nat.le_of_ble_eq_true rfl) (htt _ lk_Machine_15) (fun _ h9 => h9) xg_11_0 d_Machine_closeParen_1 ?_
  refine lv_aload_n hx hb d_Machine_closeParen_4 rfl (lv_at hl 0 rfl) ?_
  refine va_get (D := (dC, dI)) (ci := 11) (v := .ref ((u 8))) (C := R_Machine) (T := F_Machine) (N := 9) hx hb htt iw_Machine hown hK hP 11 xo_11 rfl 1 (Nat.le_of_ble_eq_true rfl) (htt _ lk_Machine_18) (fun _ h9 => h9) xg_11_1 d_Machine_closeParen_5 ?_
  refine va_get (D := (dC, dI)) (ci := 8) (v := .ref ((u 48))) (C := R_Line) (T := F_Line) (N := 18) hx hb htt iw_Line hown hK hP 8 xo_8 rfl 9 (Nat.le_of_ble_eq_true rfl) (htt _ lk_Machine_161) (fun _ h9 => h9) xg_8_9 d_Machine_closeParen_8 ?_
  refine lv_iload_n hx hb d_Machine_closeParen_11 rfl (lv_at hl 1 rfl) ?_
  obtain ⟨h_1, hm⟩ := ck_some hm
  refine va_iald hx hb hK hP 50 0 twA_38 rfl h_1 d_Machine_closeParen_12 ?_
  refine lv_aload_n hx hb d_Machine_closeParen_13 rfl (lv_at hl 0 rfl) ?_
  refine va_get (D := (dC, dI)) (ci := 11) (v := .ref ((u 8))) (C := R_Machine) (T := F_Machine) (N := 9) hx hb htt iw_Machine hown hK hP 11 xo_11 rfl 1 (Nat.le_of_ble_eq_true rfl) (htt _ lk_Machine_18) (fun _ h9 => h9) xg_11_1 d_Machine_closeParen_14 ?_
  refine va_get (D := (dC, dI)) (ci := 8) (v := .ref ((u 49))) (C := R_Line) (T := F_Line) (N := 18) hx hb htt iw_Line hown hK hP 8 xo_8 rfl 10 (Nat.le_of_ble_eq_true rfl) (htt _ lk_Machine_164) (fun _ h9 => h9) xg_8_10 d_Machine_closeParen_17 ?_
  refine lv_iload_n hx hb d_Machine_closeParen_20 rfl (lv_at hl 1 rfl) ?_
  obtain ⟨h_2, hm⟩ := ck_some hm
  refine va_iald hx hb hK hP 51 0 twA_39 rfl h_2 d_Machine_closeParen_21 ?_
  obtain ⟨r_4, h_3, hm⟩ := ob0_some hm
  have hFc := x_free0 hS hA
  refine va_calli (va_runV (As := [.int (a 38 v1.toNatClampNeg), .int (a 39 v1.toNatClampNeg)]) (rest := []) ⟨hx, hb, hml, hown, hts⟩ (x_Heap_member l dC dI cI adK adV adA u o g s.heap.size n h_3) (cwV 2 hts (tw_GV tw_cons cw_Heap_member lk_Machine_167 in_Heap_member sel_Heap_member ini_Heap) rfl rfl rfl ⟨rfl, hd_Heap_member⟩ ⟨Nat.le_of_ble_eq_true rfl, Nat.le_of_ble_eq_true rfl⟩) (xpVr hK hP hS hE hFc xo_1 rfl) rfl rfl hl.1 rfl (lv_room (Nat.le_of_ble_eq_true rfl)) d_Machine_closeParen_22 ⟨Nat.le_of_ble_eq_true rfl, Nat.le_of_ble_eq_true rfl⟩) hS (fun q _ h => hFc q h) hFc (fun r9 u9 t9 H locs ht hvm e9 hB hz1 hk1 hS => ?_)
  have e9 : r_4 = r9 := e9
  subst e9
  replace hP := x_keep hP hk1
  clear hFc hk1 hz1 hvm hB ht
  refine lv_istore_n (lv' := [(3, .int r_4), (0, .ref ((u 11))), (1, .int v1), (2, .int v2)]) hx hb d_Machine_closeParen_25 rfl hl (by decide) rfl (fun ls hl => ?_)
  refine lv_iload_n hx hb d_Machine_closeParen_26 rfl (lv_at hl 0 rfl) ?_
  obtain ⟨r_6, h_5, hm⟩ := ob0_some hm
  have hFc := x_free0 hS hA
  refine va_calli (va_runS (As := [.int r_4]) (rest := []) ⟨hx, hb, hml, hown, hts⟩ (x_Heap_isWord l H.size n h_5) (va_cwS 1 hts (tw_GS tw_cons cw_Heap_isWord lk_Machine_173 st_Heap_isWord ini_Heap) rfl rfl rfl hd_Heap_isWord ⟨Nat.le_of_ble_eq_true rfl, Nat.le_of_ble_eq_true rfl⟩) xpS0 rfl rfl hl.1 rfl (lv_room (Nat.le_of_ble_eq_true rfl)) d_Machine_closeParen_27 ⟨Nat.le_of_ble_eq_true rfl, Nat.le_of_ble_eq_true rfl⟩) hS (fun q _ h => hFc q h) hFc (fun r9 u9 t9 H locs ht hvm e9 hB hz1 hk1 hS => ?_)
  have e9 : r_6 = r9 := e9
  subst e9
  replace hP := x_keep hP hk1
  clear hFc hk1 hz1 hvm hB ht
  refine lv_if_eq (tgt := 46) hx hb d_Machine_closeParen_30 (by decide) (fun c_7 => ?_) (fun c_7 => ?_)
  · replace hm := if_t c_7 hm
    refine lv_ldc (v := (-2147483644)) hx hb hown (htt _ lk_Machine_160) d_Machine_closeParen_46 ?_
    obtain ⟨e1i, e1a, e3⟩ := re3 hm
    obtain ⟨hP, hD⟩ := x_eq e1i e1a hP hD
    exact W.iret hx hb hr (fun t9 ht hW => ⟨⟨_, (), rfl, e3.symm, by rw [ht]; exact hP, hD⟩, hS.F ht⟩) hS.2.2 d_Machine_closeParen_48
  · replace hm := if_f c_7 hm
    refine lv_aload_n hx hb d_Machine_closeParen_33 rfl (lv_at hl 1 rfl) ?_
    refine va_get (D := (dC, dI)) (ci := 11) (v := .ref ((u 1))) (C := R_Machine) (T := F_Machine) (N := 9) hx hb htt iw_Machine hown hK hP 11 xo_11 rfl 0 (Nat.le_of_ble_eq_true rfl) (htt _ lk_Machine_15) (fun _ h9 => h9) xg_11_0 d_Machine_closeParen_34 ?_
    refine lv_iload_n hx hb d_Machine_closeParen_37 rfl (lv_at hl 0 rfl) ?_
    obtain ⟨r_9, h_8, hm⟩ := ob0_some hm
    have hFc := x_free0 hS hA
    refine va_calli (va_runV (As := [.int r_4]) (rest := []) ⟨hx, hb, hml, hown, hts⟩ (x_Heap_meaning l dC dI cI adK adV adA u o g H.size n h_8) (cwV 1 hts (tw_GV tw_cons cw_Heap_meaning lk_Machine_180 in_Heap_meaning sel_Heap_meaning ini_Heap) rfl rfl rfl ⟨rfl, hd_Heap_meaning⟩ ⟨Nat.le_of_ble_eq_true rfl, Nat.le_of_ble_eq_true rfl⟩) (xpVr hK hP hS hE hFc xo_1 rfl) rfl rfl hl.1 rfl (lv_room (Nat.le_of_ble_eq_true rfl)) d_Machine_closeParen_38 ⟨Nat.le_of_ble_eq_true rfl, Nat.le_of_ble_eq_true rfl⟩) hS (fun q _ h => hFc q h) hFc (fun r9 u9 t9 H locs ht hvm e9 hB hz1 hk1 hS => ?_)
    have e9 : r_9 = r9 := e9
    subst e9
    replace hP := x_keep hP hk1
    clear hFc hk1 hz1 hvm hB ht
    refine lv_bipush (v := 76) hx hb d_Machine_closeParen_41 (by decide) ?_
    refine lv_icmp_eq (tgt := 49) hx hb d_Machine_closeParen_43 (by decide) (fun c_10 => ?_) (fun c_10 => ?_)
    · replace hm := if_t c_10 hm
      refine lv_aload_n hx hb d_Machine_closeParen_49 rfl (lv_at hl 1 rfl) ?_
      refine va_get (D := (dC, dI)) (ci := 11) (v := .ref ((u 8))) (C := R_Machine) (T := F_Machine) (N := 9) hx hb htt iw_Machine hown hK hP 11 xo_11 rfl 1 (Nat.le_of_ble_eq_true rfl) (htt _ lk_Machine_18) (fun _ h9 => h9) xg_11_1 d_Machine_closeParen_50 ?_
      refine va_get (D := (dC, dI)) (ci := 8) (v := .ref ((u 49))) (C := R_Line) (T := F_Line) (N := 18) hx hb htt iw_Line hown hK hP 8 xo_8 rfl 10 (Nat.le_of_ble_eq_true rfl) (htt _ lk_Machine_164) (fun _ h9 => h9) xg_8_10 d_Machine_closeParen_53 ?_
      refine lv_iload_n hx hb d_Machine_closeParen_56 rfl (lv_at hl 2 rfl) ?_
      refine lv_dup2_11 hx hb d_Machine_closeParen_57 rfl rfl ?_
      obtain ⟨h_11, hm⟩ := ck_some hm
      refine va_iald hx hb hK hP 51 0 twA_39 rfl h_11 d_Machine_closeParen_58 ?_
      refine lv_iconst (v := 1) hx hb d_Machine_closeParen_59 (by decide) ?_
      refine lv_iadd hx hb d_Machine_closeParen_60 ?_
      obtain ⟨h_12, hm⟩ := ck_some hm
      refine va_iast hx hb hK hP hD hS 51 0 twA_39 rfl h_12 d_Machine_closeParen_61 (fun H locs hP hD hS => ?_)
      obtain ⟨a_13, ea_13⟩ : ∃ y9 : Nat → Nat → Int32, y9 = sv a 39 v1.toNatClampNeg ((a 39 v1.toNatClampNeg) + 1) := ⟨_, rfl⟩
      replace hm := ob1_at ea_13 hm
      obtain ⟨hP, hD⟩ := xv_39 ea_13 hP hD
      refine lv_aload_n hx hb d_Machine_closeParen_62 rfl (lv_at hl 1 rfl) ?_
      refine va_get (D := (dC, dI)) (ci := 11) (v := .ref ((u 9))) (C := R_Machine) (T := F_Machine) (N := 9) hx hb htt iw_Machine hown hK hP 11 xo_11 rfl 2 (Nat.le_of_ble_eq_true rfl) (htt _ lk_Machine_22) (fun _ h9 => h9) xg_11_2 d_Machine_closeParen_63 ?_
      refine lv_iload_n hx hb d_Machine_closeParen_66 rfl (lv_at hl 3 rfl) ?_
      refine va_put (D := (dC, dI)) (ci := 9) (v := .int v2) (ty := .int) (C := R_Waiting) (T := F_Waiting) (N := 11) hx hb htt iw_Waiting t_Waiting t_Waiting_ok n_Waiting hown hK hP hD hS 9 xo_9 rfl 7 (Nat.le_of_ble_eq_true rfl) (htt _ lk_Machine_42) (fun _ h9 => h9) rfl (by decide +kernel) rfl rfl xl_9_7 d_Machine_closeParen_67 (fun H locs hP hD hS => ?_)
      obtain ⟨i_14, ei_14⟩ : ∃ y9 : Nat → Int32, y9 = upd i 42 v2 := ⟨_, rfl⟩
      replace hm := ob1_at ei_14 hm
      obtain ⟨hP, hD⟩ := xw_42 ei_14 hP hD
      refine lv_ldc (v := (-2147483584)) hx hb hown (htt _ lk_Machine_110) d_Machine_closeParen_70 ?_
      obtain ⟨e1i, e1a, e3⟩ := re3 hm
      obtain ⟨hP, hD⟩ := x_eq e1i e1a hP hD
      exact W.iret hx hb hr (fun t9 ht hW => ⟨⟨_, (), rfl, e3.symm, by rw [ht]; exact hP, hD⟩, hS.F ht⟩) hS.2.2 d_Machine_closeParen_72
    · replace hm := if_f c_10 hm
      refine lv_ldc (v := (-2147483644)) hx hb hown (htt _ lk_Machine_160) d_Machine_closeParen_46 ?_
      obtain ⟨e1i, e1a, e3⟩ := re3 hm
      obtain ⟨hP, hD⟩ := x_eq e1i e1a hP hD
      exact W.iret hx hb hr (fun t9 ht hW => ⟨⟨_, (), rfl, e3.symm, by rw [ht]; exact hP, hD⟩, hS.F ht⟩) hS.2.2 d_Machine_closeParen_48

def m_Machine_finishTest (n : Nat) (g : Nat → Nat) (i : Nat → Int32) (a : Nat → Nat → Int32) (v1 : Int32) (v2 : Int32) : Option ((Nat → Int32) × (Nat → Nat → Int32) × Int32) := if v2 = ((-2147483648 : Int32)) then some (i, a, (-2147483644)) else ob0 (m_Heap_isWord n v2) (fun r_3 => if r_3 = ((0 : Int32)) then some (i, a, (-2147483645)) else ob0 (m_Heap_sameWord n g i a v2 (i 4)) (fun r_6 => if r_6 = ((0 : Int32)) then ob0 (m_Heap_sameWord n g i a v2 (i 5)) (fun r_9 => if r_9 = ((0 : Int32)) then some (i, a, (-2147483645)) else ob (m_Machine_leaveGiving n g i a v1 (-2147483648 : Int32)) (fun i_12 a_13 r_14 => some (i_12, a_13, r_14))) else ob (m_Machine_changeLists n g i a v1 (4 : Int32)) (fun i_16 a_17 r_18 => some (i_16, a_17, r_18))))
set_option maxHeartbeats 4000000 in
set_option maxRecDepth 100000 in
theorem x_Machine_finishTest (l : Launch) (dC : Nat → ClassId) (dI : Nat → Nat → Nat) (cI : ClassId) (adK adV adA u o g : Nat → Nat) (sz : Nat) (n : Nat) {i : Nat → Int32} {a : Nat → Nat → Int32} {v1 : Int32} {v2 : Int32} {i2 : Nat → Int32} {a2 : Nat → Nat → Int32} {r2 : Int32} (hm : m_Machine_finishTest n g i a v1 v2 = some (i2, a2, r2)) : Met l y_Machine_finishTest w_Machine_finishTest ({ frames := 3, cells := 0, slots := 0, locals := 65 } : Room) (va_Pc [.ref ((u 11)), .int v1, .int v2] (xE dC dI cI adK adV adA u o g i a sz)) (va_Qi (xR r2) (xB dC dI cI u o g i2 a2 (va_A (TW cI u o i a g) sz)) (va_A (TW cI u o i a g) sz)) 0 0 ((va_A (TW cI u o i a g) sz)) := by
  refine Met.ofW (cc := b_Machine_finishTest) (maxL := 3) (ret := (some .int)) (by decide) rfl ?_
  intro p e s m args below meth c s₁ B hml hv
  obtain ⟨rfl, hsz, hP, hK, hE, hD0⟩ := hv
  have hx := B.exec
  have hb := B.bytes
  have hr := B.returns
  have hts := atoms_spec (ws := w_Machine_finishTest) B.pre
  have htt : ∀ w ∈ tw_T, w.before _ s = true := fun w h => hts w (List.mem_cons_of_mem _ h)
  have hown : s.vm.findClass R_Machine = some m.cls := findClass_of_methodNamed B.named
  have hlocks := B.notSynchronized
  subst hsz
  have hD := hD0.self (sz := s.heap.size)
  generalize hAe : (va_A (TW cI u o i a g) s.heap.size) = A at hD hE ⊢
  have hA : ∀ q : Nat, s.heap.size ≤ q → A q := fun q h => by rw [← hAe]; exact Or.inr h
  have hS : va_S A s.heap s.heap [] := va_S.rf
  have hl := lv_entry ([.ref ((u 11)), .int v1, .int v2]) (n := 3) (Nat.le_of_ble_eq_true rfl)
  rw [lg_entry_eq]
  generalize (lg_sl ([.ref ((u 11)), .int v1, .int v2]) ++ List.replicate (3 - (lg_sl ([.ref ((u 11)), .int v1, .int v2])).length) Slot.unset).toArray = ls at hl ⊢
  have hl : lv_has ls 3 [(0, .ref ((u 11))), (1, .int v1), (2, .int v2)] := hl
  rw [m_Machine_finishTest] at hm
  refine lv_iload_n hx hb d_Machine_finishTest_0 rfl (lv_at hl 2 rfl) ?_
  refine lv_ldc (v := (-2147483648)) hx hb hown (htt _ lk_Machine_114) d_Machine_finishTest_1 ?_
  refine lv_icmp_ne (tgt := 9) hx hb d_Machine_finishTest_3 (by decide) (fun c_1 => ?_) (fun c_1 => ?_)
  · replace hm := if_f c_1 hm
    refine lv_iload_n hx hb d_Machine_finishTest_9 rfl (lv_at hl 2 rfl) ?_
    obtain ⟨r_3, h_2, hm⟩ := ob0_some hm
    have hFc := x_free0 hS hA
    refine va_calli (va_runS (As := [.int v2]) (rest := []) ⟨hx, hb, hml, hown, hts⟩ (x_Heap_isWord l s.heap.size n h_2) (va_cwS 1 hts (tw_GS tw_cons cw_Heap_isWord lk_Machine_173 st_Heap_isWord ini_Heap) rfl rfl rfl hd_Heap_isWord ⟨Nat.le_of_ble_eq_true rfl, Nat.le_of_ble_eq_true rfl⟩) xpS0 rfl rfl hl.1 rfl (lv_room (Nat.le_of_ble_eq_true rfl)) d_Machine_finishTest_10 ⟨Nat.le_of_ble_eq_true rfl, Nat.le_of_ble_eq_true rfl⟩) hS (fun q _ h => hFc q h) hFc (fun r9 u9 t9 H locs ht hvm e9 hB hz1 hk1 hS => ?_)
    have e9 : r_3 = r9 := e9
    subst e9
    replace hP := x_keep hP hk1
    clear hFc hk1 hz1 hvm hB ht
    refine lv_if_ne (tgt := 20) hx hb d_Machine_finishTest_13 (by decide) (fun c_4 => ?_) (fun c_4 => ?_)
    · replace hm := if_f c_4 hm
      refine lv_aload_n hx hb d_Machine_finishTest_20 rfl (lv_at hl 0 rfl) ?_
      refine va_get (D := (dC, dI)) (ci := 11) (v := .ref ((u 1))) (C := R_Machine) (T := F_Machine) (N := 9) hx hb htt iw_Machine hown hK hP 11 xo_11 rfl 0 (Nat.le_of_ble_eq_true rfl) (htt _ lk_Machine_15) (fun _ h9 => h9) xg_11_0 d_Machine_finishTest_21 ?_
      refine lv_iload_n hx hb d_Machine_finishTest_24 rfl (lv_at hl 2 rfl) ?_
      refine lv_aload_n hx hb d_Machine_finishTest_25 rfl (lv_at hl 0 rfl) ?_
      refine va_get (D := (dC, dI)) (ci := 11) (v := .ref ((u 1))) (C := R_Machine) (T := F_Machine) (N := 9) hx hb htt iw_Machine hown hK hP 11 xo_11 rfl 0 (Nat.le_of_ble_eq_true rfl) (htt _ lk_Machine_15) (fun _ h9 => h9) xg_11_0 d_Machine_finishTest_26 ?_
      refine va_get (D := (dC, dI)) (ci := 1) (v := .int (i 4)) (C := R_Heap) (T := F_Heap) (N := 12) hx hb htt iw_Heap hown hK hP 1 xo_1 rfl 1 (Nat.le_of_ble_eq_true rfl) (htt _ lk_Machine_277) (fun _ h9 => h9) xg_1_1 d_Machine_finishTest_29 ?_
      obtain ⟨r_6, h_5, hm⟩ := ob0_some hm
      have hFc := x_free0 hS hA
      refine va_calli (va_runV (As := [.int v2, .int (i 4)]) (rest := []) ⟨hx, hb, hml, hown, hts⟩ (x_Heap_sameWord l dC dI cI adK adV adA u o g H.size n h_5) (cwV 2 hts (tw_GV tw_cons cw_Heap_sameWord lk_Machine_280 in_Heap_sameWord sel_Heap_sameWord ini_Heap) rfl rfl rfl ⟨rfl, hd_Heap_sameWord⟩ ⟨Nat.le_of_ble_eq_true rfl, Nat.le_of_ble_eq_true rfl⟩) (xpVr hK hP hS hE hFc xo_1 rfl) rfl rfl hl.1 rfl (lv_room (Nat.le_of_ble_eq_true rfl)) d_Machine_finishTest_32 ⟨Nat.le_of_ble_eq_true rfl, Nat.le_of_ble_eq_true rfl⟩) hS (fun q _ h => hFc q h) hFc (fun r9 u9 t9 H locs ht hvm e9 hB hz1 hk1 hS => ?_)
      have e9 : r_6 = r9 := e9
      subst e9
      replace hP := x_keep hP hk1
      clear hFc hk1 hz1 hvm hB ht
      refine lv_if_eq (tgt := 45) hx hb d_Machine_finishTest_35 (by decide) (fun c_7 => ?_) (fun c_7 => ?_)
      · replace hm := if_t c_7 hm
        refine lv_aload_n hx hb d_Machine_finishTest_45 rfl (lv_at hl 0 rfl) ?_
        refine va_get (D := (dC, dI)) (ci := 11) (v := .ref ((u 1))) (C := R_Machine) (T := F_Machine) (N := 9) hx hb htt iw_Machine hown hK hP 11 xo_11 rfl 0 (Nat.le_of_ble_eq_true rfl) (htt _ lk_Machine_15) (fun _ h9 => h9) xg_11_0 d_Machine_finishTest_46 ?_
        refine lv_iload_n hx hb d_Machine_finishTest_49 rfl (lv_at hl 2 rfl) ?_
        refine lv_aload_n hx hb d_Machine_finishTest_50 rfl (lv_at hl 0 rfl) ?_
        refine va_get (D := (dC, dI)) (ci := 11) (v := .ref ((u 1))) (C := R_Machine) (T := F_Machine) (N := 9) hx hb htt iw_Machine hown hK hP 11 xo_11 rfl 0 (Nat.le_of_ble_eq_true rfl) (htt _ lk_Machine_15) (fun _ h9 => h9) xg_11_0 d_Machine_finishTest_51 ?_
        refine va_get (D := (dC, dI)) (ci := 1) (v := .int (i 5)) (C := R_Heap) (T := F_Heap) (N := 12) hx hb htt iw_Heap hown hK hP 1 xo_1 rfl 2 (Nat.le_of_ble_eq_true rfl) (htt _ lk_Machine_287) (fun _ h9 => h9) xg_1_2 d_Machine_finishTest_54 ?_
        obtain ⟨r_9, h_8, hm⟩ := ob0_some hm
        have hFc := x_free0 hS hA
        refine va_calli (va_runV (As := [.int v2, .int (i 5)]) (rest := []) ⟨hx, hb, hml, hown, hts⟩ (x_Heap_sameWord l dC dI cI adK adV adA u o g H.size n h_8) (cwV 2 hts (tw_GV tw_cons cw_Heap_sameWord lk_Machine_280 in_Heap_sameWord sel_Heap_sameWord ini_Heap) rfl rfl rfl ⟨rfl, hd_Heap_sameWord⟩ ⟨Nat.le_of_ble_eq_true rfl, Nat.le_of_ble_eq_true rfl⟩) (xpVr hK hP hS hE hFc xo_1 rfl) rfl rfl hl.1 rfl (lv_room (Nat.le_of_ble_eq_true rfl)) d_Machine_finishTest_57 ⟨Nat.le_of_ble_eq_true rfl, Nat.le_of_ble_eq_true rfl⟩) hS (fun q _ h => hFc q h) hFc (fun r9 u9 t9 H locs ht hvm e9 hB hz1 hk1 hS => ?_)
        have e9 : r_9 = r9 := e9
        subst e9
        replace hP := x_keep hP hk1
        clear hFc hk1 hz1 hvm hB ht
        refine lv_if_eq (tgt := 73) hx hb d_Machine_finishTest_60 (by decide) (fun c_10 => ?_) (fun c_10 => ?_)
        · replace hm := if_t c_10 hm
          refine lv_ldcw (v := (-2147483645)) hx hb hown (htt _ lk_Machine_276) d_Machine_finishTest_73 ?_
          obtain ⟨e1i, e1a, e3⟩ := re3 hm
          obtain ⟨hP, hD⟩ := x_eq e1i e1a hP hD
          exact W.iret hx hb hr (fun t9 ht hW => ⟨⟨_, (), rfl, e3.symm, by rw [ht]; exact hP, hD⟩, hS.F ht⟩) hS.2.2 d_Machine_finishTest_76
        · replace hm := if_f c_10 hm
          refine lv_aload_n hx hb d_Machine_finishTest_63 rfl (lv_at hl 0 rfl) ?_
          refine lv_iload_n hx hb d_Machine_finishTest_64 rfl (lv_at hl 1 rfl) ?_
          refine lv_ldc (v := (-2147483648)) hx hb hown (htt _ lk_Machine_114) d_Machine_finishTest_65 ?_
          obtain ⟨i_12, a_13, r_14, h_11, hm⟩ := ob_some hm
          have hFc := x_free hD hS hA
          refine va_calli (va_runV (As := [.int v1, .int ((-2147483648))]) (rest := []) ⟨hx, hb, hml, hown, hts⟩ (x_Machine_leaveGiving l dC dI cI adK adV adA u o g H.size n h_11) (cwV 2 hts (tw_GV tw_cons cw_Machine_leaveGiving lk_Machine_264 in_Machine_leaveGiving sel_Machine_leaveGiving ini_Machine) rfl rfl rfl ⟨rfl, hd_Machine_leaveGiving⟩ ⟨Nat.le_of_ble_eq_true rfl, Nat.le_of_ble_eq_true rfl⟩) (xpV hK hP hD hS hE hFc xo_11 rfl) rfl rfl hl.1 rfl (lv_room (Nat.le_of_ble_eq_true rfl)) d_Machine_finishTest_67 ⟨Nat.le_of_ble_eq_true rfl, Nat.le_of_ble_eq_true rfl⟩) hS (fun q _ h => hFc q h) hFc (fun r9 u9 t9 H locs ht hvm e9 hB hz1 hk1 hS => ?_)
          have e9 : r_14 = r9 := e9
          subst e9
          obtain ⟨hP, hD⟩ := x_aft hB ht hFc
          clear hFc hk1 hz1 hvm hB ht
          refine lv_goto (tgt := 76) hx hb d_Machine_finishTest_70 (by decide) ?_
          obtain ⟨e1i, e1a, e3⟩ := re3 hm
          obtain ⟨hP, hD⟩ := x_eq e1i e1a hP hD
          exact W.iret hx hb hr (fun t9 ht hW => ⟨⟨_, (), rfl, e3.symm, by rw [ht]; exact hP, hD⟩, hS.F ht⟩) hS.2.2 d_Machine_finishTest_76
      · replace hm := if_f c_7 hm
        refine lv_aload_n hx hb d_Machine_finishTest_38 rfl (lv_at hl 0 rfl) ?_
        refine lv_iload_n hx hb d_Machine_finishTest_39 rfl (lv_at hl 1 rfl) ?_
        refine lv_iconst (v := 4) hx hb d_Machine_finishTest_40 (by decide) ?_
        obtain ⟨i_16, a_17, r_18, h_15, hm⟩ := ob_some hm
        have hFc := x_free hD hS hA
        refine va_calli (va_runV (As := [.int v1, .int 4]) (rest := []) ⟨hx, hb, hml, hown, hts⟩ (x_Machine_changeLists l dC dI cI adK adV adA u o g H.size n h_15) (cwV 2 hts (tw_GV tw_cons cw_Machine_changeLists lk_Machine_284 in_Machine_changeLists sel_Machine_changeLists ini_Machine) rfl rfl rfl ⟨rfl, hd_Machine_changeLists⟩ ⟨Nat.le_of_ble_eq_true rfl, Nat.le_of_ble_eq_true rfl⟩) (xpV hK hP hD hS hE hFc xo_11 rfl) rfl rfl hl.1 rfl (lv_room (Nat.le_of_ble_eq_true rfl)) d_Machine_finishTest_41 ⟨Nat.le_of_ble_eq_true rfl, Nat.le_of_ble_eq_true rfl⟩) hS (fun q _ h => hFc q h) hFc (fun r9 u9 t9 H locs ht hvm e9 hB hz1 hk1 hS => ?_)
        have e9 : r_18 = r9 := e9
        subst e9
        obtain ⟨hP, hD⟩ := x_aft hB ht hFc
        clear hFc hk1 hz1 hvm hB ht
        obtain ⟨e1i, e1a, e3⟩ := re3 hm
        obtain ⟨hP, hD⟩ := x_eq e1i e1a hP hD
        exact W.iret hx hb hr (fun t9 ht hW => ⟨⟨_, (), rfl, e3.symm, by rw [ht]; exact hP, hD⟩, hS.F ht⟩) hS.2.2 d_Machine_finishTest_44
    · replace hm := if_t c_4 hm
      refine lv_ldcw (v := (-2147483645)) hx hb hown (htt _ lk_Machine_276) d_Machine_finishTest_16 ?_
      obtain ⟨e1i, e1a, e3⟩ := re3 hm
      obtain ⟨hP, hD⟩ := x_eq e1i e1a hP hD
      exact W.iret hx hb hr (fun t9 ht hW => ⟨⟨_, (), rfl, e3.symm, by rw [ht]; exact hP, hD⟩, hS.F ht⟩) hS.2.2 d_Machine_finishTest_19
  · replace hm := if_t c_1 hm
    refine lv_ldc (v := (-2147483644)) hx hb hown (htt _ lk_Machine_160) d_Machine_finishTest_6 ?_
    obtain ⟨e1i, e1a, e3⟩ := re3 hm
    obtain ⟨hP, hD⟩ := x_eq e1i e1a hP hD
    exact W.iret hx hb hr (fun t9 ht hW => ⟨⟨_, (), rfl, e3.symm, by rw [ht]; exact hP, hD⟩, hS.F ht⟩) hS.2.2 d_Machine_finishTest_8

def m_Heap_newListOf_a54_b25 (n : Nat) : Nat → (Nat → Int32) → (Nat → Nat → Int32) → (Nat → Nat) → Int32 → Int32 → Int32 → Int32 → Option ((Nat → Int32) × (Nat → Nat → Int32) × (Nat → Nat) × (Nat × Nat) × Int32)
  | 0, _, _, _, _, _, _, _ => none
  | f + 1, i, a, g, v2, v3, v4, v5 => if v3 ≤ v5 then obG (m_Heap_newList n g i a v3 v4) (fun i_3 a_4 g_5 r_7 => if r_7 = ((-2147483648 : Int32)) then some (i_3, a_4, g_5, (0, 0), r_7) else cy v2 ((r_7 >>> ((2 : Int32) &&& 31)) + 1) v3 32000 (g_5 0) (ob1 (updA a_4 0 (va_cpy (a_4 54) (a_4 0) v2.toNatClampNeg ((r_7 >>> ((2 : Int32) &&& 31)) + 1).toNatClampNeg v3.toNatClampNeg) : Nat → Nat → Int32) (fun a_14 => some (i_3, a_14, g_5, (0, 0), r_7)))) else ck ((v2 + v5)) 32000 (ob0 (m_Heap_size n g i a (a 54 (v2 + v5).toNatClampNeg)) (fun r_17 => ob1 (v4 + r_17 : Int32) (fun x_20 => ob1 (v5 + 1 : Int32) (fun x_21 => m_Heap_newListOf_a54_b25 n f i a g v2 v3 x_20 x_21))))
set_option maxHeartbeats 4000000 in
set_option maxRecDepth 100000 in
theorem lb_Heap_newListOf_a54_25 (l : Launch) (dC : Nat → ClassId) (dI : Nat → Nat → Nat) (cI : ClassId) (adK adV adA u : Nat → Nat) (n : Nat) {p : Program} {e : Env} {s : State} {m : MethodId} {args : Array Value} {below : List Frame} {meth : Method} {c : Code} {A : Nat → Prop} (hx : p.tables.exec = Jvm.exec) (hb : c.code = b_Heap_newListOf) (hml : c.maxLocals = 6) (hown : s.vm.findClass R_Heap = some m.cls) (hts : ∀ w ∈ w_Heap_newListOf, w.before args s = true) (hK : va_K (dC, dI) classes [(cI, .int)] s) (hE : tw_E adK adV adA A s s.heap) (hA : ∀ q : Nat, s.heap.size ≤ q → A q) (hr : meth.sig.returnType = (some .int)) (hlocks : meth.locks = false) {mc ms : Nat} {i2 : Nat → Int32} {a2 : Nat → Nat → Int32} {g2 : Nat → Nat} {r2 : Int32} : ∀ (f : Nat) (i : Nat → Int32) (a : Nat → Nat → Int32) (g : Nat → Nat) (v2 : Int32) (v3 : Int32) (v4 : Int32) (v5 : Int32) (k2 : Nat × Nat), m_Heap_newListOf_a54_b25 n f i a g v2 v3 v4 v5 = some (i2, a2, g2, k2, r2) → ∀ (o : Nat → Nat) (kc ks : Nat), kc + k2.1 = mc → ks + k2.2 = ms → ∀ (H : Heap) (locs : List Loc) (ls : Array Slot), va_P (dC, dI) classes (TW cI u o i a g) H → va_D A (TW cI u o i a g) → va_S A s.heap H locs → lv_has ls 6 [(0, .ref ((u 1))), (1, .ref ((u 64))), (2, .int v2), (3, .int v3), (4, .int v4), (5, .int v5)] → W p l e ({ frames := 4, cells := mc, slots := ms, locals := 107 } : Room) s m args below meth c H locs kc ks (MQ below (va_Qi (xRg r2) (xBg dC dI cI u g2 i2 a2 A) A) args s mc ms A) (F0 m 25 ls []) := by
  have htt : ∀ w ∈ tw_T, w.before _ s = true := fun w h => hts w (List.mem_cons_of_mem _ h)
  intro f
  induction f with
  | zero =>
    intro i a g v2 v3 v4 v5 k2 hm
    rw [m_Heap_newListOf_a54_b25] at hm
    cases hm
  | succ f ih =>
    intro i a g v2 v3 v4 v5 k2 hm o kc ks hkc hks H locs ls hP hD hS hl
    rw [m_Heap_newListOf_a54_b25] at hm
    refine lv_iload hx hb d_Heap_newListOf_25 (lv_at hl 5 rfl) ?_
    refine lv_iload_n hx hb d_Heap_newListOf_27 rfl (lv_at hl 3 rfl) ?_
    refine lv_icmp_ge (tgt := 52) hx hb d_Heap_newListOf_28 (by decide) (fun c_1 => ?_) (fun c_1 => ?_)
    · replace hm := if_t c_1 hm
      refine lv_aload_n hx hb d_Heap_newListOf_52 rfl (lv_at hl 0 rfl) ?_
      refine lv_iload_n hx hb d_Heap_newListOf_53 rfl (lv_at hl 3 rfl) ?_
      refine lv_iload hx hb d_Heap_newListOf_54 (lv_at hl 4 rfl) ?_
      obtain ⟨i_3, a_4, g_5, k_6, r_7, k_8, h_2, hm, e7, e8⟩ := obG_some hm
      have hFc := x_free hD hS hA
      refine xg_calli (va_runV (As := [.int v3, .int v4]) (rest := []) ⟨hx, hb, hml, hown, hts⟩ (x_Heap_newList l dC dI cI adK adV adA u o g H.size n h_2) (cwV 2 hts (tw_GV tw_cons cw_Heap_newList lk_Heap_122 in_Heap_newList sel_Heap_newList ini_Heap) rfl rfl rfl ⟨rfl, hd_Heap_newList⟩ ⟨Nat.le_of_ble_eq_true rfl, Nat.le_of_ble_eq_true rfl⟩) (xpV hK hP hD hS hE hFc xo_1 rfl) rfl rfl hl.1 rfl (lv_room (Nat.le_of_ble_eq_true rfl)) d_Heap_newListOf_56 ⟨show kc + k_6.1 ≤ mc by omega, show ks + k_6.2 ≤ ms by omega⟩) hS (fun q _ h => hFc q h) hFc (fun kc_10 ks_11 r9 o_9 t9 H locs ekc eks ht hvm e9 hB hz1 hk1 hS => ?_)
      replace hkc : kc_10 + k_8.1 = mc := by omega
      replace hks : ks_11 + k_8.2 = ms := by omega
      clear e7 e8
      clear ekc eks
      have e9 : r_7 = r9 := e9
      subst e9
      obtain ⟨hP, hD⟩ := x_aftg hB ht hFc
      clear hFc hk1 hz1 hvm hB ht
      refine lv_istore (lv' := [(5, .int r_7), (0, .ref ((u 1))), (1, .ref ((u 64))), (2, .int v2), (3, .int v3), (4, .int v4)]) hx hb d_Heap_newListOf_59 hl (by decide) rfl (fun ls hl => ?_)
      refine lv_iload hx hb d_Heap_newListOf_61 (lv_at hl 0 rfl) ?_
      refine lv_ldc (v := (-2147483648)) hx hb hown (htt _ lk_Heap_71) d_Heap_newListOf_63 ?_
      refine lv_icmp_eq (tgt := 84) hx hb d_Heap_newListOf_65 (by decide) (fun c_12 => ?_) (fun c_12 => ?_)
      · replace hm := if_t c_12 hm
        refine lv_iload hx hb d_Heap_newListOf_84 (lv_at hl 0 rfl) ?_
        obtain ⟨e1, e2, e4, e5, e6, e3⟩ := re5 hm
        obtain ⟨hP, hD⟩ := x_eqg e1 e2 e4 hP hD
        refine W.widen (k := mc) (n := ms) (show kc_10 ≤ mc by omega) (show ks_11 ≤ ms by omega) ?_
        exact W.iret hx hb hr (fun t9 ht hW => ⟨⟨_, o_9, rfl, e3.symm, by rw [ht]; exact hP, hD⟩, hS.F ht⟩) hS.2.2 d_Heap_newListOf_86
      · replace hm := if_f c_12 hm
        refine lv_aload_n hx hb d_Heap_newListOf_68 rfl (lv_at hl 2 rfl) ?_
        refine lv_iload_n hx hb d_Heap_newListOf_69 rfl (lv_at hl 3 rfl) ?_
        refine lv_aload_n hx hb d_Heap_newListOf_70 rfl (lv_at hl 1 rfl) ?_
        refine va_get (D := (dC, dI)) (ci := 1) (v := .ref ((o_9 0))) (C := R_Heap) (T := F_Heap) (N := 12) hx hb htt iw_Heap hown hK hP 1 xo_1 rfl 5 (Nat.le_of_ble_eq_true rfl) (htt _ lk_Heap_11) (fun _ h9 => h9) xg_1_5 d_Heap_newListOf_71 ?_
        refine lv_iload hx hb d_Heap_newListOf_74 (lv_at hl 0 rfl) ?_
        refine lv_iconst (v := 2) hx hb d_Heap_newListOf_76 (by decide) ?_
        refine lv_ishr hx hb d_Heap_newListOf_77 ?_
        refine lv_iconst (v := 1) hx hb d_Heap_newListOf_78 (by decide) ?_
        refine lv_iadd hx hb d_Heap_newListOf_79 ?_
        refine lv_iload_n hx hb d_Heap_newListOf_80 rfl (lv_at hl 4 rfl) ?_
        obtain ⟨h_13a, h_13b, h_13c, h_13d, h_13e, hm⟩ := cy_some hm
        refine va_copyi hx hb (by rw [hml]; exact hl.1.symm) hown (htt _ lk_Heap_106) (htt _ na_arraycopy) (htt _ st_arraycopy) (htt _ ini_System) hK hP hD hS 66 12 0 0 (ty := .int) twA_54 twA_0 rfl rfl rfl h_13a h_13b h_13c h_13d h_13e (fun _ _ => rfl) (Nat.le_of_ble_eq_true rfl) (Nat.le_of_ble_eq_true rfl) d_Heap_newListOf_81 (fun H locs hP hD hS => ?_)
        obtain ⟨a_14, ea_14⟩ : ∃ y9 : Nat → Nat → Int32, y9 = updA a_4 0 (va_cpy (a_4 54) (a_4 0) v2.toNatClampNeg ((r_7 >>> ((2 : Int32) &&& 31)) + 1).toNatClampNeg v3.toNatClampNeg) := ⟨_, rfl⟩
        replace hm := ob1_at ea_14 hm
        obtain ⟨hP, hD⟩ := xv_0 ea_14 hP hD
        refine lv_iload hx hb d_Heap_newListOf_84 (lv_at hl 0 rfl) ?_
        obtain ⟨e1, e2, e4, e5, e6, e3⟩ := re5 hm
        obtain ⟨hP, hD⟩ := x_eqg e1 e2 e4 hP hD
        refine W.widen (k := mc) (n := ms) (show kc_10 ≤ mc by omega) (show ks_11 ≤ ms by omega) ?_
        exact W.iret hx hb hr (fun t9 ht hW => ⟨⟨_, o_9, rfl, e3.symm, by rw [ht]; exact hP, hD⟩, hS.F ht⟩) hS.2.2 d_Heap_newListOf_86
    · replace hm := if_f c_1 hm
      refine lv_iload hx hb d_Heap_newListOf_31 (lv_at hl 4 rfl) ?_
      refine lv_aload_n hx hb d_Heap_newListOf_33 rfl (lv_at hl 0 rfl) ?_
      refine lv_aload_n hx hb d_Heap_newListOf_34 rfl (lv_at hl 1 rfl) ?_
      refine lv_iload_n hx hb d_Heap_newListOf_35 rfl (lv_at hl 2 rfl) ?_
      refine lv_iload hx hb d_Heap_newListOf_36 (lv_at hl 5 rfl) ?_
      refine lv_iadd hx hb d_Heap_newListOf_38 ?_
      obtain ⟨h_15, hm⟩ := ck_some hm
      refine va_iald hx hb hK hP 66 0 twA_54 rfl h_15 d_Heap_newListOf_39 ?_
      obtain ⟨r_17, h_16, hm⟩ := ob0_some hm
      have hFc := x_free0 hS hA
      refine xg_calli (va_runV (As := [.int (a 54 (v2 + v5).toNatClampNeg)]) (rest := [.int v4]) ⟨hx, hb, hml, hown, hts⟩ (x_Heap_size l dC dI cI adK adV adA u o g H.size n h_16) (cwV 1 hts (tw_GV tw_cons cw_Heap_size lk_Heap_119 in_Heap_size sel_Heap_size ini_Heap) rfl rfl rfl ⟨rfl, hd_Heap_size⟩ ⟨Nat.le_of_ble_eq_true rfl, Nat.le_of_ble_eq_true rfl⟩) (xpVr hK hP hS hE hFc xo_1 rfl) rfl rfl hl.1 rfl (lv_room (Nat.le_of_ble_eq_true rfl)) d_Heap_newListOf_40 ⟨show kc + 0 ≤ mc by omega, show ks + 0 ≤ ms by omega⟩) hS (fun q _ h => hFc q h) hFc (fun kc_18 ks_19 r9 u9 t9 H locs ekc eks ht hvm e9 hB hz1 hk1 hS => ?_)
      replace hkc : kc_18 + k2.1 = mc := by omega
      replace hks : ks_19 + k2.2 = ms := by omega
      clear ekc eks
      have e9 : r_17 = r9 := e9
      subst e9
      replace hP := x_keep hP hk1
      clear hFc hk1 hz1 hvm hB ht
      refine lv_iadd hx hb d_Heap_newListOf_43 ?_
      refine lv_topi (fun x_20 ex_20 => ?_)
      replace hm := ob1_at ex_20 hm
      refine lv_istore (lv' := [(4, .int x_20), (0, .ref ((u 1))), (1, .ref ((u 64))), (2, .int v2), (3, .int v3), (5, .int v5)]) hx hb d_Heap_newListOf_44 hl (by decide) rfl (fun ls hl => ?_)
      obtain ⟨x_21, ex_21⟩ : ∃ y9 : Int32, y9 = v5 + 1 := ⟨_, rfl⟩
      replace hm := ob1_at ex_21 hm
      refine lv_iinc (v := x_21) (lv' := [(5, .int x_21), (4, .int x_20), (0, .ref ((u 1))), (1, .ref ((u 64))), (2, .int v2), (3, .int v3)]) hx hb d_Heap_newListOf_46 hl (k := 5) rfl (by rw [ex_21]; rfl) (by decide) rfl (fun ls hl => ?_)
      refine lv_goto (tgt := 25) hx hb d_Heap_newListOf_49 (by decide) ?_
      exact ih _ _ _ _ _ _ _ _ hm o kc_18 ks_19 hkc hks _ _ _ hP hD hS (lv_sub hl [2, 3, 4, 5, 1, 0] rfl)
def m_Heap_newListOf_a54 (n : Nat) (g : Nat → Nat) (i : Nat → Int32) (a : Nat → Nat → Int32) (v2 : Int32) (v3 : Int32) : Option ((Nat → Int32) × (Nat → Nat → Int32) × (Nat → Nat) × (Nat × Nat) × Int32) := if v2 < ((0 : Int32)) then some (i, a, g, (0, 0), (-2147483648)) else if v3 < ((0 : Int32)) then some (i, a, g, (0, 0), (-2147483648)) else if v3 ≤ (((nI 32000) - v2)) then m_Heap_newListOf_a54_b25 n n i a g v2 v3 (1 : Int32) (0 : Int32) else some (i, a, g, (0, 0), (-2147483648))
set_option maxHeartbeats 4000000 in
set_option maxRecDepth 100000 in
theorem x_Heap_newListOf_a54 (l : Launch) (dC : Nat → ClassId) (dI : Nat → Nat → Nat) (cI : ClassId) (adK adV adA u o g : Nat → Nat) (sz : Nat) (n : Nat) {i : Nat → Int32} {a : Nat → Nat → Int32} {v2 : Int32} {v3 : Int32} {i2 : Nat → Int32} {a2 : Nat → Nat → Int32} {g2 : Nat → Nat} {k2 : Nat × Nat} {r2 : Int32} (hm : m_Heap_newListOf_a54 n g i a v2 v3 = some (i2, a2, g2, k2, r2)) : Met l y_Heap_newListOf w_Heap_newListOf ({ frames := 4, cells := k2.1, slots := k2.2, locals := 107 } : Room) (va_Pc [.ref ((u 1)), .ref ((u 64)), .int v2, .int v3] (xE dC dI cI adK adV adA u o g i a sz)) (va_Qi (xRg r2) (xBg dC dI cI u g2 i2 a2 (va_A (TW cI u o i a g) sz)) (va_A (TW cI u o i a g) sz)) k2.1 k2.2 ((va_A (TW cI u o i a g) sz)) := by
  refine Met.ofW (cc := b_Heap_newListOf) (maxL := 6) (ret := (some .int)) (by decide) rfl ?_
  intro p e s m args below meth c s₁ B hml hv
  obtain ⟨rfl, hsz, hP, hK, hE, hD0⟩ := hv
  have hx := B.exec
  have hb := B.bytes
  have hr := B.returns
  have hts := atoms_spec (ws := w_Heap_newListOf) B.pre
  have htt : ∀ w ∈ tw_T, w.before _ s = true := fun w h => hts w (List.mem_cons_of_mem _ h)
  have hown : s.vm.findClass R_Heap = some m.cls := findClass_of_methodNamed B.named
  have hlocks := B.notSynchronized
  subst hsz
  have hD := hD0.self (sz := s.heap.size)
  generalize hAe : (va_A (TW cI u o i a g) s.heap.size) = A at hD hE ⊢
  have hA : ∀ q : Nat, s.heap.size ≤ q → A q := fun q h => by rw [← hAe]; exact Or.inr h
  have hS : va_S A s.heap s.heap [] := va_S.rf
  obtain ⟨mc, ms, emc, ems⟩ : ∃ mc ms : Nat, k2.1 = mc ∧ k2.2 = ms := ⟨_, _, rfl, rfl⟩
  have hkc : 0 + k2.1 = mc := by rw [Nat.zero_add]; exact emc
  have hks : 0 + k2.2 = ms := by rw [Nat.zero_add]; exact ems
  rw [emc, ems]
  clear emc ems
  have hl := lv_entry ([.ref ((u 1)), .ref ((u 64)), .int v2, .int v3]) (n := 6) (Nat.le_of_ble_eq_true rfl)
  rw [lg_entry_eq]
  generalize (lg_sl ([.ref ((u 1)), .ref ((u 64)), .int v2, .int v3]) ++ List.replicate (6 - (lg_sl ([.ref ((u 1)), .ref ((u 64)), .int v2, .int v3])).length) Slot.unset).toArray = ls at hl ⊢
  have hl : lv_has ls 6 [(0, .ref ((u 1))), (1, .ref ((u 64))), (2, .int v2), (3, .int v3)] := hl
  rw [m_Heap_newListOf_a54] at hm
  refine lv_iload_n hx hb d_Heap_newListOf_0 rfl (lv_at hl 2 rfl) ?_
  refine lv_if_lt (tgt := 16) hx hb d_Heap_newListOf_1 (by decide) (fun c_1 => ?_) (fun c_1 => ?_)
  · replace hm := if_t c_1 hm
    refine lv_ldc (v := (-2147483648)) hx hb hown (htt _ lk_Heap_71) d_Heap_newListOf_16 ?_
    obtain ⟨e1, e2, e4, e5, e6, e3⟩ := re5 hm
    obtain ⟨hP, hD⟩ := x_eqg e1 e2 e4 hP hD
    refine W.widen (k := mc) (n := ms) (show 0 ≤ mc by omega) (show 0 ≤ ms by omega) ?_
    exact W.iret hx hb hr (fun t9 ht hW => ⟨⟨_, o, rfl, e3.symm, by rw [ht]; exact hP, hD⟩, hS.F ht⟩) hS.2.2 d_Heap_newListOf_18
  · replace hm := if_f c_1 hm
    refine lv_iload_n hx hb d_Heap_newListOf_4 rfl (lv_at hl 3 rfl) ?_
    refine lv_if_lt (tgt := 16) hx hb d_Heap_newListOf_5 (by decide) (fun c_2 => ?_) (fun c_2 => ?_)
    · replace hm := if_t c_2 hm
      refine lv_ldc (v := (-2147483648)) hx hb hown (htt _ lk_Heap_71) d_Heap_newListOf_16 ?_
      obtain ⟨e1, e2, e4, e5, e6, e3⟩ := re5 hm
      obtain ⟨hP, hD⟩ := x_eqg e1 e2 e4 hP hD
      refine W.widen (k := mc) (n := ms) (show 0 ≤ mc by omega) (show 0 ≤ ms by omega) ?_
      exact W.iret hx hb hr (fun t9 ht hW => ⟨⟨_, o, rfl, e3.symm, by rw [ht]; exact hP, hD⟩, hS.F ht⟩) hS.2.2 d_Heap_newListOf_18
    · replace hm := if_f c_2 hm
      refine lv_iload_n hx hb d_Heap_newListOf_8 rfl (lv_at hl 3 rfl) ?_
      refine lv_aload_n hx hb d_Heap_newListOf_9 rfl (lv_at hl 1 rfl) ?_
      refine va_alen (v := nI 32000) hx hb hK hP 66 0 twA_54 rfl rfl d_Heap_newListOf_10 ?_
      refine lv_iload_n hx hb d_Heap_newListOf_11 rfl (lv_at hl 2 rfl) ?_
      refine lv_isub hx hb d_Heap_newListOf_12 ?_
      refine lv_icmp_le (tgt := 19) hx hb d_Heap_newListOf_13 (by decide) (fun c_3 => ?_) (fun c_3 => ?_)
      · replace hm := if_t c_3 hm
        refine lv_iconst (v := 1) hx hb d_Heap_newListOf_19 (by decide) ?_
        refine lv_istore (lv' := [(4, .int 1), (0, .ref ((u 1))), (1, .ref ((u 64))), (2, .int v2), (3, .int v3)]) hx hb d_Heap_newListOf_20 hl (by decide) rfl (fun ls hl => ?_)
        refine lv_iconst (v := 0) hx hb d_Heap_newListOf_22 (by decide) ?_
        refine lv_istore (lv' := [(5, .int 0), (4, .int 1), (0, .ref ((u 1))), (1, .ref ((u 64))), (2, .int v2), (3, .int v3)]) hx hb d_Heap_newListOf_23 hl (by decide) rfl (fun ls hl => ?_)
        exact lb_Heap_newListOf_a54_25 l dC dI cI adK adV adA u n hx hb hml hown hts hK hE hA hr hlocks n _ _ _ _ _ _ _ _ hm o 0 0 hkc hks _ _ _ hP hD hS (lv_sub hl [2, 3, 4, 5, 1, 0] rfl)
      · replace hm := if_f c_3 hm
        refine lv_ldc (v := (-2147483648)) hx hb hown (htt _ lk_Heap_71) d_Heap_newListOf_16 ?_
        obtain ⟨e1, e2, e4, e5, e6, e3⟩ := re5 hm
        obtain ⟨hP, hD⟩ := x_eqg e1 e2 e4 hP hD
        refine W.widen (k := mc) (n := ms) (show 0 ≤ mc by omega) (show 0 ≤ ms by omega) ?_
        exact W.iret hx hb hr (fun t9 ht hW => ⟨⟨_, o, rfl, e3.symm, by rw [ht]; exact hP, hD⟩, hS.F ht⟩) hS.2.2 d_Heap_newListOf_18

def m_Machine_finishMapped (n : Nat) (g : Nat → Nat) (i : Nat → Int32) (a : Nat → Nat → Int32) (v1 : Int32) (v2 : Int32) : Option ((Nat → Int32) × (Nat → Nat → Int32) × (Nat → Nat) × (Nat × Nat) × Int32) := if v2 = ((-2147483648 : Int32)) then some (i, a, g, (0, 0), (-2147483644)) else ck v1 150 (ob0 (m_Heap_size n g i a v2) (fun r_4 => ob1 ((a 41 v1.toNatClampNeg) + r_4 : Int32) (fun x_7 => if ((600 : Int32)) < x_7 then some (i, a, g, (0, 0), (-2147483640)) else if ((i 38)) < ((30000 : Int32)) then ob1 ((i 38) + 1 : Int32) (fun x_10 => ob1 (upd i 38 x_10 : Nat → Int32) (fun i_11 => ck v1 150 (ob1 (sv a 41 v1.toNatClampNeg x_7 : Nat → Nat → Int32) (fun a_13 => ob (m_Waiting_put n g i_11 a_13 v2) (fun i_15 a_16 r_17 => ck v1 150 (ck v1 150 (ob0 (m_Heap_count n g i_15 a_16 (a_16 42 v1.toNatClampNeg)) (fun r_23 => if r_23 ≤ ((a_16 40 v1.toNatClampNeg)) then ck v1 150 (ob1 (a_16 45 v1.toNatClampNeg : Int32) (fun x_28 => obG (m_Heap_newListOf_a54 n g i_15 a_16 x_28 ((i_15 43) - x_28)) (fun i_30 a_31 g_32 r_34 => if r_34 = ((-2147483648 : Int32)) then ob (m_Machine_leaveGiving n g_32 i_30 a_31 v1 (-2147483640 : Int32)) (fun i_47 a_48 r_49 => some (i_47, a_48, g_32, (0, 0), r_49)) else ob (m_Machine_leaveGiving n g_32 i_30 a_31 v1 r_34) (fun i_41 a_42 r_43 => some (i_41, a_42, g_32, (0, 0), r_43))))) else ob (m_Machine_awaitTurn n g i_15 a_16) (fun i_53 a_54 r_55 => some (i_53, a_54, g, (0, 0), r_55)))))))))) else some (i, a, g, (0, 0), (-2147483640)))))
set_option maxHeartbeats 4000000 in
set_option maxRecDepth 100000 in
theorem x_Machine_finishMapped (l : Launch) (dC : Nat → ClassId) (dI : Nat → Nat → Nat) (cI : ClassId) (adK adV adA u o g : Nat → Nat) (sz : Nat) (n : Nat) {i : Nat → Int32} {a : Nat → Nat → Int32} {v1 : Int32} {v2 : Int32} {i2 : Nat → Int32} {a2 : Nat → Nat → Int32} {g2 : Nat → Nat} {k2 : Nat × Nat} {r2 : Int32} (hm : m_Machine_finishMapped n g i a v1 v2 = some (i2, a2, g2, k2, r2)) : Met l y_Machine_finishMapped w_Machine_finishMapped ({ frames := 5, cells := k2.1, slots := k2.2, locals := 132 } : Room) (va_Pc [.ref ((u 11)), .int v1, .int v2] (xE dC dI cI adK adV adA u o g i a sz)) (va_Qi (xRg r2) (xBg dC dI cI u g2 i2 a2 (va_A (TW cI u o i a g) sz)) (va_A (TW cI u o i a g) sz)) k2.1 k2.2 ((va_A (TW cI u o i a g) sz)) := by
  refine Met.ofW (cc := b_Machine_finishMapped) (maxL := 6) (ret := (some .int)) (by decide) rfl ?_
  intro p e s m args below meth c s₁ B hml hv
  obtain ⟨rfl, hsz, hP, hK, hE, hD0⟩ := hv
  have hx := B.exec
  have hb := B.bytes
  have hr := B.returns
  have hts := atoms_spec (ws := w_Machine_finishMapped) B.pre
  have htt : ∀ w ∈ tw_T, w.before _ s = true := fun w h => hts w (List.mem_cons_of_mem _ h)
  have hown : s.vm.findClass R_Machine = some m.cls := findClass_of_methodNamed B.named
  have hlocks := B.notSynchronized
  subst hsz
  have hD := hD0.self (sz := s.heap.size)
  generalize hAe : (va_A (TW cI u o i a g) s.heap.size) = A at hD hE ⊢
  have hA : ∀ q : Nat, s.heap.size ≤ q → A q := fun q h => by rw [← hAe]; exact Or.inr h
  have hS : va_S A s.heap s.heap [] := va_S.rf
  obtain ⟨mc, ms, emc, ems⟩ : ∃ mc ms : Nat, k2.1 = mc ∧ k2.2 = ms := ⟨_, _, rfl, rfl⟩
  have hkc : 0 + k2.1 = mc := by rw [Nat.zero_add]; exact emc
  have hks : 0 + k2.2 = ms := by rw [Nat.zero_add]; exact ems
  rw [emc, ems]
  clear emc ems
  have hl := lv_entry ([.ref ((u 11)), .int v1, .int v2]) (n := 6) (Nat.le_of_ble_eq_true rfl)
  rw [lg_entry_eq]
  generalize (lg_sl ([.ref ((u 11)), .int v1, .int v2]) ++ List.replicate (6 - (lg_sl ([.ref ((u 11)), .int v1, .int v2])).length) Slot.unset).toArray = ls at hl ⊢
  have hl : lv_has ls 6 [(0, .ref ((u 11))), (1, .int v1), (2, .int v2)] := hl
  rw [m_Machine_finishMapped] at hm
  refine lv_iload_n hx hb d_Machine_finishMapped_0 rfl (lv_at hl 2 rfl) ?_
  refine lv_ldc (v := (-2147483648)) hx hb hown (htt _ lk_Machine_114) d_Machine_finishMapped_1 ?_
  refine lv_icmp_ne (tgt := 9) hx hb d_Machine_finishMapped_3 (by decide) (fun c_1 => ?_) (fun c_1 => ?_)
  · replace hm := if_f c_1 hm
    refine lv_aload_n hx hb d_Machine_finishMapped_9 rfl (lv_at hl 0 rfl) ?_
    refine va_get (D := (dC, dI)) (ci := 11) (v := .ref ((u 8))) (C := R_Machine) (T := F_Machine) (N := 9) hx hb htt iw_Machine hown hK hP 11 xo_11 rfl 1 (Nat.le_of_ble_eq_true rfl) (htt _ lk_Machine_18) (fun _ h9 => h9) xg_11_1 d_Machine_finishMapped_10 ?_
    refine va_get (D := (dC, dI)) (ci := 8) (v := .ref ((u 51))) (C := R_Line) (T := F_Line) (N := 18) hx hb htt iw_Line hown hK hP 8 xo_8 rfl 12 (Nat.le_of_ble_eq_true rfl) (htt _ lk_Machine_258) (fun _ h9 => h9) xg_8_12 d_Machine_finishMapped_13 ?_
    refine lv_iload_n hx hb d_Machine_finishMapped_16 rfl (lv_at hl 1 rfl) ?_
    obtain ⟨h_2, hm⟩ := ck_some hm
    refine va_iald hx hb hK hP 53 0 twA_41 rfl h_2 d_Machine_finishMapped_17 ?_
    refine lv_aload_n hx hb d_Machine_finishMapped_18 rfl (lv_at hl 0 rfl) ?_
    refine va_get (D := (dC, dI)) (ci := 11) (v := .ref ((u 1))) (C := R_Machine) (T := F_Machine) (N := 9) hx hb htt iw_Machine hown hK hP 11 xo_11 rfl 0 (Nat.le_of_ble_eq_true rfl) (htt _ lk_Machine_15) (fun _ h9 => h9) xg_11_0 d_Machine_finishMapped_19 ?_
    refine lv_iload_n hx hb d_Machine_finishMapped_22 rfl (lv_at hl 2 rfl) ?_
    obtain ⟨r_4, h_3, hm⟩ := ob0_some hm
    have hFc := x_free0 hS hA
    refine xg_calli (va_runV (As := [.int v2]) (rest := [.int (a 41 v1.toNatClampNeg)]) ⟨hx, hb, hml, hown, hts⟩ (x_Heap_size l dC dI cI adK adV adA u o g s.heap.size n h_3) (cwV 1 hts (tw_GV tw_cons cw_Heap_size lk_Machine_290 in_Heap_size sel_Heap_size ini_Heap) rfl rfl rfl ⟨rfl, hd_Heap_size⟩ ⟨Nat.le_of_ble_eq_true rfl, Nat.le_of_ble_eq_true rfl⟩) (xpVr hK hP hS hE hFc xo_1 rfl) rfl rfl hl.1 rfl (lv_room (Nat.le_of_ble_eq_true rfl)) d_Machine_finishMapped_23 ⟨show 0 + 0 ≤ mc by omega, show 0 + 0 ≤ ms by omega⟩) hS (fun q _ h => hFc q h) hFc (fun kc_5 ks_6 r9 u9 t9 H locs ekc eks ht hvm e9 hB hz1 hk1 hS => ?_)
    replace hkc : kc_5 + k2.1 = mc := by omega
    replace hks : ks_6 + k2.2 = ms := by omega
    clear ekc eks
    have e9 : r_4 = r9 := e9
    subst e9
    replace hP := x_keep hP hk1
    clear hFc hk1 hz1 hvm hB ht
    refine lv_iadd hx hb d_Machine_finishMapped_26 ?_
    refine lv_topi (fun x_7 ex_7 => ?_)
    replace hm := ob1_at ex_7 hm
    refine lv_istore_n (lv' := [(3, .int x_7), (0, .ref ((u 11))), (1, .int v1), (2, .int v2)]) hx hb d_Machine_finishMapped_27 rfl hl (by decide) rfl (fun ls hl => ?_)
    refine lv_iload_n hx hb d_Machine_finishMapped_28 rfl (lv_at hl 0 rfl) ?_
    refine lv_sipush (v := 600) hx hb d_Machine_finishMapped_29 (by decide) ?_
    refine lv_icmp_gt (tgt := 48) hx hb d_Machine_finishMapped_32 (by decide) (fun c_8 => ?_) (fun c_8 => ?_)
    · replace hm := if_t c_8 hm
      refine lv_ldcw (v := (-2147483640)) hx hb hown (htt _ lk_Machine_296) d_Machine_finishMapped_48 ?_
      obtain ⟨e1, e2, e4, e5, e6, e3⟩ := re5 hm
      obtain ⟨hP, hD⟩ := x_eqg e1 e2 e4 hP hD
      refine W.widen (k := mc) (n := ms) (show kc_5 ≤ mc by omega) (show ks_6 ≤ ms by omega) ?_
      exact W.iret hx hb hr (fun t9 ht hW => ⟨⟨_, o, rfl, e3.symm, by rw [ht]; exact hP, hD⟩, hS.F ht⟩) hS.2.2 d_Machine_finishMapped_51
    · replace hm := if_f c_8 hm
      refine lv_aload_n hx hb d_Machine_finishMapped_35 rfl (lv_at hl 1 rfl) ?_
      refine va_get (D := (dC, dI)) (ci := 11) (v := .ref ((u 8))) (C := R_Machine) (T := F_Machine) (N := 9) hx hb htt iw_Machine hown hK hP 11 xo_11 rfl 1 (Nat.le_of_ble_eq_true rfl) (htt _ lk_Machine_18) (fun _ h9 => h9) xg_11_1 d_Machine_finishMapped_36 ?_
      refine va_get (D := (dC, dI)) (ci := 8) (v := .int (i 38)) (C := R_Line) (T := F_Line) (N := 18) hx hb htt iw_Line hown hK hP 8 xo_8 rfl 4 (Nat.le_of_ble_eq_true rfl) (htt _ lk_Machine_293) (fun _ h9 => h9) xg_8_4 d_Machine_finishMapped_39 ?_
      refine lv_sipush (v := 30000) hx hb d_Machine_finishMapped_42 (by decide) ?_
      refine lv_icmp_lt (tgt := 52) hx hb d_Machine_finishMapped_45 (by decide) (fun c_9 => ?_) (fun c_9 => ?_)
      · replace hm := if_t c_9 hm
        refine lv_aload_n hx hb d_Machine_finishMapped_52 rfl (lv_at hl 1 rfl) ?_
        refine va_get (D := (dC, dI)) (ci := 11) (v := .ref ((u 8))) (C := R_Machine) (T := F_Machine) (N := 9) hx hb htt iw_Machine hown hK hP 11 xo_11 rfl 1 (Nat.le_of_ble_eq_true rfl) (htt _ lk_Machine_18) (fun _ h9 => h9) xg_11_1 d_Machine_finishMapped_53 ?_
        refine lv_dup hx hb d_Machine_finishMapped_56 rfl ?_
        refine va_get (D := (dC, dI)) (ci := 8) (v := .int (i 38)) (C := R_Line) (T := F_Line) (N := 18) hx hb htt iw_Line hown hK hP 8 xo_8 rfl 4 (Nat.le_of_ble_eq_true rfl) (htt _ lk_Machine_293) (fun _ h9 => h9) xg_8_4 d_Machine_finishMapped_57 ?_
        refine lv_iconst (v := 1) hx hb d_Machine_finishMapped_60 (by decide) ?_
        refine lv_iadd hx hb d_Machine_finishMapped_61 ?_
        refine lv_topi (fun x_10 ex_10 => ?_)
        replace hm := ob1_at ex_10 hm
        refine va_put (D := (dC, dI)) (ci := 8) (v := .int x_10) (ty := .int) (C := R_Line) (T := F_Line) (N := 18) hx hb htt iw_Line t_Line t_Line_ok n_Line hown hK hP hD hS 8 xo_8 rfl 4 (Nat.le_of_ble_eq_true rfl) (htt _ lk_Machine_293) (fun _ h9 => h9) rfl (by decide +kernel) rfl rfl xl_8_4 d_Machine_finishMapped_62 (fun H locs hP hD hS => ?_)
        obtain ⟨i_11, ei_11⟩ : ∃ y9 : Nat → Int32, y9 = upd i 38 x_10 := ⟨_, rfl⟩
        replace hm := ob1_at ei_11 hm
        obtain ⟨hP, hD⟩ := xw_38 ei_11 hP hD
        refine lv_aload_n hx hb d_Machine_finishMapped_65 rfl (lv_at hl 1 rfl) ?_
        refine va_get (D := (dC, dI)) (ci := 11) (v := .ref ((u 8))) (C := R_Machine) (T := F_Machine) (N := 9) hx hb htt iw_Machine hown hK hP 11 xo_11 rfl 1 (Nat.le_of_ble_eq_true rfl) (htt _ lk_Machine_18) (fun _ h9 => h9) xg_11_1 d_Machine_finishMapped_66 ?_
        refine va_get (D := (dC, dI)) (ci := 8) (v := .ref ((u 51))) (C := R_Line) (T := F_Line) (N := 18) hx hb htt iw_Line hown hK hP 8 xo_8 rfl 12 (Nat.le_of_ble_eq_true rfl) (htt _ lk_Machine_258) (fun _ h9 => h9) xg_8_12 d_Machine_finishMapped_69 ?_
        refine lv_iload_n hx hb d_Machine_finishMapped_72 rfl (lv_at hl 2 rfl) ?_
        refine lv_iload_n hx hb d_Machine_finishMapped_73 rfl (lv_at hl 0 rfl) ?_
        obtain ⟨h_12, hm⟩ := ck_some hm
        refine va_iast hx hb hK hP hD hS 53 0 twA_41 rfl h_12 d_Machine_finishMapped_74 (fun H locs hP hD hS => ?_)
        obtain ⟨a_13, ea_13⟩ : ∃ y9 : Nat → Nat → Int32, y9 = sv a 41 v1.toNatClampNeg x_7 := ⟨_, rfl⟩
        replace hm := ob1_at ea_13 hm
        obtain ⟨hP, hD⟩ := xv_41 ea_13 hP hD
        refine lv_aload_n hx hb d_Machine_finishMapped_75 rfl (lv_at hl 1 rfl) ?_
        refine va_get (D := (dC, dI)) (ci := 11) (v := .ref ((u 9))) (C := R_Machine) (T := F_Machine) (N := 9) hx hb htt iw_Machine hown hK hP 11 xo_11 rfl 2 (Nat.le_of_ble_eq_true rfl) (htt _ lk_Machine_22) (fun _ h9 => h9) xg_11_2 d_Machine_finishMapped_76 ?_
        refine lv_iload_n hx hb d_Machine_finishMapped_79 rfl (lv_at hl 3 rfl) ?_
        obtain ⟨i_15, a_16, r_17, h_14, hm⟩ := ob_some hm
        have hFc := x_free hD hS hA
        refine xg_callv (va_runV (As := [.int v2]) (rest := []) ⟨hx, hb, hml, hown, hts⟩ (x_Waiting_put l dC dI cI adK adV adA u o g H.size n h_14) (cwV 1 hts (tw_GV tw_cons cw_Waiting_put lk_Machine_251 in_Waiting_put sel_Waiting_put ini_Waiting) rfl rfl rfl ⟨rfl, hd_Waiting_put⟩ ⟨Nat.le_of_ble_eq_true rfl, Nat.le_of_ble_eq_true rfl⟩) (xpV hK hP hD hS hE hFc xo_9 rfl) rfl rfl hl.1 rfl (lv_room (Nat.le_of_ble_eq_true rfl)) d_Machine_finishMapped_80 ⟨show kc_5 + 0 ≤ mc by omega, show ks_6 + 0 ≤ ms by omega⟩) hS (fun q _ h => hFc q h) hFc (fun kc_18 ks_19 u9 t9 H locs ekc eks ht hvm e9 hB hz1 hk1 hS => ?_)
        replace hkc : kc_18 + k2.1 = mc := by omega
        replace hks : ks_19 + k2.2 = ms := by omega
        clear ekc eks
        obtain ⟨hP, hD⟩ := x_aft hB ht hFc
        clear hFc hk1 hz1 hvm hB ht
        refine lv_aload_n hx hb d_Machine_finishMapped_83 rfl (lv_at hl 1 rfl) ?_
        refine va_get (D := (dC, dI)) (ci := 11) (v := .ref ((u 8))) (C := R_Machine) (T := F_Machine) (N := 9) hx hb htt iw_Machine hown hK hP 11 xo_11 rfl 1 (Nat.le_of_ble_eq_true rfl) (htt _ lk_Machine_18) (fun _ h9 => h9) xg_11_1 d_Machine_finishMapped_84 ?_
        refine va_get (D := (dC, dI)) (ci := 8) (v := .ref ((u 50))) (C := R_Line) (T := F_Line) (N := 18) hx hb htt iw_Line hown hK hP 8 xo_8 rfl 11 (Nat.le_of_ble_eq_true rfl) (htt _ lk_Machine_255) (fun _ h9 => h9) xg_8_11 d_Machine_finishMapped_87 ?_
        refine lv_iload_n hx hb d_Machine_finishMapped_90 rfl (lv_at hl 2 rfl) ?_
        obtain ⟨h_20, hm⟩ := ck_some hm
        refine va_iald hx hb hK hP 52 0 twA_40 rfl h_20 d_Machine_finishMapped_91 ?_
        refine lv_aload_n hx hb d_Machine_finishMapped_92 rfl (lv_at hl 1 rfl) ?_
        refine va_get (D := (dC, dI)) (ci := 11) (v := .ref ((u 1))) (C := R_Machine) (T := F_Machine) (N := 9) hx hb htt iw_Machine hown hK hP 11 xo_11 rfl 0 (Nat.le_of_ble_eq_true rfl) (htt _ lk_Machine_15) (fun _ h9 => h9) xg_11_0 d_Machine_finishMapped_93 ?_
        refine lv_aload_n hx hb d_Machine_finishMapped_96 rfl (lv_at hl 1 rfl) ?_
        refine va_get (D := (dC, dI)) (ci := 11) (v := .ref ((u 8))) (C := R_Machine) (T := F_Machine) (N := 9) hx hb htt iw_Machine hown hK hP 11 xo_11 rfl 1 (Nat.le_of_ble_eq_true rfl) (htt _ lk_Machine_18) (fun _ h9 => h9) xg_11_1 d_Machine_finishMapped_97 ?_
        refine va_get (D := (dC, dI)) (ci := 8) (v := .ref ((u 52))) (C := R_Line) (T := F_Line) (N := 18) hx hb htt iw_Line hown hK hP 8 xo_8 rfl 13 (Nat.le_of_ble_eq_true rfl) (htt _ lk_Machine_267) (fun _ h9 => h9) xg_8_13 d_Machine_finishMapped_100 ?_
        refine lv_iload_n hx hb d_Machine_finishMapped_103 rfl (lv_at hl 2 rfl) ?_
        obtain ⟨h_21, hm⟩ := ck_some hm
        refine va_iald hx hb hK hP 54 0 twA_42 rfl h_21 d_Machine_finishMapped_104 ?_
        obtain ⟨r_23, h_22, hm⟩ := ob0_some hm
        have hFc := x_free0 hS hA
        refine xg_calli (va_runV (As := [.int (a_16 42 v1.toNatClampNeg)]) (rest := [.int (a_16 40 v1.toNatClampNeg)]) ⟨hx, hb, hml, hown, hts⟩ (x_Heap_count l dC dI cI adK adV adA u o g H.size n h_22) (cwV 1 hts (tw_GV tw_cons cw_Heap_count lk_Machine_221 in_Heap_count sel_Heap_count ini_Heap) rfl rfl rfl ⟨rfl, hd_Heap_count⟩ ⟨Nat.le_of_ble_eq_true rfl, Nat.le_of_ble_eq_true rfl⟩) (xpVr hK hP hS hE hFc xo_1 rfl) rfl rfl hl.1 rfl (lv_room (Nat.le_of_ble_eq_true rfl)) d_Machine_finishMapped_105 ⟨show kc_18 + 0 ≤ mc by omega, show ks_19 + 0 ≤ ms by omega⟩) hS (fun q _ h => hFc q h) hFc (fun kc_24 ks_25 r9 u9 t9 H locs ekc eks ht hvm e9 hB hz1 hk1 hS => ?_)
        replace hkc : kc_24 + k2.1 = mc := by omega
        replace hks : ks_25 + k2.2 = ms := by omega
        clear ekc eks
        have e9 : r_23 = r9 := e9
        subst e9
        replace hP := x_keep hP hk1
        clear hFc hk1 hz1 hvm hB ht
        refine lv_icmp_ge (tgt := 116) hx hb d_Machine_finishMapped_108 (by decide) (fun c_26 => ?_) (fun c_26 => ?_)
        · replace hm := if_t c_26 hm
          refine lv_aload_n hx hb d_Machine_finishMapped_116 rfl (lv_at hl 1 rfl) ?_
          refine va_get (D := (dC, dI)) (ci := 11) (v := .ref ((u 8))) (C := R_Machine) (T := F_Machine) (N := 9) hx hb htt iw_Machine hown hK hP 11 xo_11 rfl 1 (Nat.le_of_ble_eq_true rfl) (htt _ lk_Machine_18) (fun _ h9 => h9) xg_11_1 d_Machine_finishMapped_117 ?_
          refine va_get (D := (dC, dI)) (ci := 8) (v := .ref ((u 55))) (C := R_Line) (T := F_Line) (N := 18) hx hb htt iw_Line hown hK hP 8 xo_8 rfl 16 (Nat.le_of_ble_eq_true rfl) (htt _ lk_Machine_154) (fun _ h9 => h9) xg_8_16 d_Machine_finishMapped_120 ?_
          refine lv_iload_n hx hb d_Machine_finishMapped_123 rfl (lv_at hl 2 rfl) ?_
          obtain ⟨h_27, hm⟩ := ck_some hm
          refine va_iald hx hb hK hP 57 0 twA_45 rfl h_27 d_Machine_finishMapped_124 ?_
          refine lv_topi (fun x_28 ex_28 => ?_)
          replace hm := ob1_at ex_28 hm
          refine lv_istore (lv' := [(4, .int x_28), (3, .int x_7), (0, .ref ((u 11))), (1, .int v1), (2, .int v2)]) hx hb d_Machine_finishMapped_125 hl (by decide) rfl (fun ls hl => ?_)
          refine lv_aload_n hx hb d_Machine_finishMapped_127 rfl (lv_at hl 2 rfl) ?_
          refine va_get (D := (dC, dI)) (ci := 11) (v := .ref ((u 1))) (C := R_Machine) (T := F_Machine) (N := 9) hx hb htt iw_Machine hown hK hP 11 xo_11 rfl 0 (Nat.le_of_ble_eq_true rfl) (htt _ lk_Machine_15) (fun _ h9 => h9) xg_11_0 d_Machine_finishMapped_128 ?_
          refine lv_aload_n hx hb d_Machine_finishMapped_131 rfl (lv_at hl 2 rfl) ?_
          refine va_get (D := (dC, dI)) (ci := 11) (v := .ref ((u 9))) (C := R_Machine) (T := F_Machine) (N := 9) hx hb htt iw_Machine hown hK hP 11 xo_11 rfl 2 (Nat.le_of_ble_eq_true rfl) (htt _ lk_Machine_22) (fun _ h9 => h9) xg_11_2 d_Machine_finishMapped_132 ?_
          refine va_get (D := (dC, dI)) (ci := 9) (v := .ref ((u 64))) (C := R_Waiting) (T := F_Waiting) (N := 11) hx hb htt iw_Waiting hown hK hP 9 xo_9 rfl 8 (Nat.le_of_ble_eq_true rfl) (htt _ lk_Machine_297) (fun _ h9 => h9) xg_9_8 d_Machine_finishMapped_135 ?_
          refine lv_iload hx hb d_Machine_finishMapped_138 (lv_at hl 0 rfl) ?_
          refine lv_aload_n hx hb d_Machine_finishMapped_140 rfl (lv_at hl 2 rfl) ?_
          refine va_get (D := (dC, dI)) (ci := 11) (v := .ref ((u 9))) (C := R_Machine) (T := F_Machine) (N := 9) hx hb htt iw_Machine hown hK hP 11 xo_11 rfl 2 (Nat.le_of_ble_eq_true rfl) (htt _ lk_Machine_22) (fun _ h9 => h9) xg_11_2 d_Machine_finishMapped_141 ?_
          refine va_get (D := (dC, dI)) (ci := 9) (v := .int (i_15 43)) (C := R_Waiting) (T := F_Waiting) (N := 11) hx hb htt iw_Waiting hown hK hP 9 xo_9 rfl 9 (Nat.le_of_ble_eq_true rfl) (htt _ lk_Machine_157) (fun _ h9 => h9) xg_9_9 d_Machine_finishMapped_144 ?_
          refine lv_iload hx hb d_Machine_finishMapped_147 (lv_at hl 0 rfl) ?_
          refine lv_isub hx hb d_Machine_finishMapped_149 ?_
          obtain ⟨i_30, a_31, g_32, k_33, r_34, k_35, h_29, hm, e7, e8⟩ := obG_some hm
          have hFc := x_free hD hS hA
          refine xg_calli (va_runV (As := [.ref ((u 64)), .int x_28, .int ((i_15 43) - x_28)]) (rest := []) ⟨hx, hb, hml, hown, hts⟩ (x_Heap_newListOf_a54 l dC dI cI adK adV adA u o g H.size n h_29) (cwV 3 hts (tw_GV tw_cons cw_Heap_newListOf lk_Machine_298 in_Heap_newListOf sel_Heap_newListOf ini_Heap) rfl rfl rfl ⟨rfl, hd_Heap_newListOf⟩ ⟨Nat.le_of_ble_eq_true rfl, Nat.le_of_ble_eq_true rfl⟩) (xpV hK hP hD hS hE hFc xo_1 rfl) rfl rfl hl.1 rfl (lv_room (Nat.le_of_ble_eq_true rfl)) d_Machine_finishMapped_150 ⟨show kc_24 + k_33.1 ≤ mc by omega, show ks_25 + k_33.2 ≤ ms by omega⟩) hS (fun q _ h => hFc q h) hFc (fun kc_37 ks_38 r9 o_36 t9 H locs ekc eks ht hvm e9 hB hz1 hk1 hS => ?_)
          replace hkc : kc_37 + k_35.1 = mc := by omega
          replace hks : ks_38 + k_35.2 = ms := by omega
          clear e7 e8
          clear ekc eks
          have e9 : r_34 = r9 := e9
          subst e9
          obtain ⟨hP, hD⟩ := x_aftg hB ht hFc
          clear hFc hk1 hz1 hvm hB ht
          refine lv_istore (lv' := [(5, .int r_34), (4, .int x_28), (3, .int x_7), (0, .ref ((u 11))), (1, .int v1), (2, .int v2)]) hx hb d_Machine_finishMapped_153 hl (by decide) rfl (fun ls hl => ?_)
          refine lv_aload_n hx hb d_Machine_finishMapped_155 rfl (lv_at hl 3 rfl) ?_
          refine lv_iload_n hx hb d_Machine_finishMapped_156 rfl (lv_at hl 4 rfl) ?_
          refine lv_iload hx hb d_Machine_finishMapped_157 (lv_at hl 0 rfl) ?_
          refine lv_ldc (v := (-2147483648)) hx hb hown (htt _ lk_Machine_114) d_Machine_finishMapped_159 ?_
          refine lv_icmp_ne (tgt := 170) hx hb d_Machine_finishMapped_161 (by decide) (fun c_39 => ?_) (fun c_39 => ?_)
          · replace hm := if_f c_39 hm
            refine lv_iload hx hb d_Machine_finishMapped_170 (lv_at hl 0 rfl) ?_
            obtain ⟨i_41, a_42, r_43, h_40, hm⟩ := ob_some hm
            have hFc := x_free hD hS hA
            refine xg_calli (va_runV (As := [.int v1, .int r_34]) (rest := []) ⟨hx, hb, hml, hown, hts⟩ (x_Machine_leaveGiving l dC dI cI adK adV adA u o_36 g_32 H.size n h_40) (cwV 2 hts (tw_GV tw_cons cw_Machine_leaveGiving lk_Machine_264 in_Machine_leaveGiving sel_Machine_leaveGiving ini_Machine) rfl rfl rfl ⟨rfl, hd_Machine_leaveGiving⟩ ⟨Nat.le_of_ble_eq_true rfl, Nat.le_of_ble_eq_true rfl⟩) (xpV hK hP hD hS hE hFc xo_11 rfl) rfl rfl hl.1 rfl (lv_room (Nat.le_of_ble_eq_true rfl)) d_Machine_finishMapped_172 ⟨show kc_37 + 0 ≤ mc by omega, show ks_38 + 0 ≤ ms by omega⟩) hS (fun q _ h => hFc q h) hFc (fun kc_44 ks_45 r9 u9 t9 H locs ekc eks ht hvm e9 hB hz1 hk1 hS => ?_)
            replace hkc : kc_44 + k_35.1 = mc := by omega
            replace hks : ks_45 + k_35.2 = ms := by omega
            clear ekc eks
            have e9 : r_43 = r9 := e9
            subst e9
            obtain ⟨hP, hD⟩ := x_aft hB ht hFc
            clear hFc hk1 hz1 hvm hB ht
            obtain ⟨e1, e2, e4, e5, e6, e3⟩ := re5 hm
            obtain ⟨hP, hD⟩ := x_eqg e1 e2 e4 hP hD
            refine W.widen (k := mc) (n := ms) (show kc_44 ≤ mc by omega) (show ks_45 ≤ ms by omega) ?_
            exact W.iret hx hb hr (fun t9 ht hW => ⟨⟨_, o_36, rfl, e3.symm, by rw [ht]; exact hP, hD⟩, hS.F ht⟩) hS.2.2 d_Machine_finishMapped_175
          · replace hm := if_t c_39 hm
            refine lv_ldcw (v := (-2147483640)) hx hb hown (htt _ lk_Machine_296) d_Machine_finishMapped_164 ?_
            refine lv_goto (tgt := 172) hx hb d_Machine_finishMapped_167 (by decide) ?_
            obtain ⟨i_47, a_48, r_49, h_46, hm⟩ := ob_some hm
            have hFc := x_free hD hS hA
            refine xg_calli (va_runV (As := [.int v1, .int ((-2147483640))]) (rest := []) ⟨hx, hb, hml, hown, hts⟩ (x_Machine_leaveGiving l dC dI cI adK adV adA u o_36 g_32 H.size n h_46) (cwV 2 hts (tw_GV tw_cons cw_Machine_leaveGiving lk_Machine_264 in_Machine_leaveGiving sel_Machine_leaveGiving ini_Machine) rfl rfl rfl ⟨rfl, hd_Machine_leaveGiving⟩ ⟨Nat.le_of_ble_eq_true rfl, Nat.le_of_ble_eq_true rfl⟩) (xpV hK hP hD hS hE hFc xo_11 rfl) rfl rfl hl.1 rfl (lv_room (Nat.le_of_ble_eq_true rfl)) d_Machine_finishMapped_172 ⟨show kc_37 + 0 ≤ mc by omega, show ks_38 + 0 ≤ ms by omega⟩) hS (fun q _ h => hFc q h) hFc (fun kc_50 ks_51 r9 u9 t9 H locs ekc eks ht hvm e9 hB hz1 hk1 hS => ?_)
            replace hkc : kc_50 + k_35.1 = mc := by omega
            replace hks : ks_51 + k_35.2 = ms := by omega
            clear ekc eks
            have e9 : r_49 = r9 := e9
            subst e9
            obtain ⟨hP, hD⟩ := x_aft hB ht hFc
            clear hFc hk1 hz1 hvm hB ht
            obtain ⟨e1, e2, e4, e5, e6, e3⟩ := re5 hm
            obtain ⟨hP, hD⟩ := x_eqg e1 e2 e4 hP hD
            refine W.widen (k := mc) (n := ms) (show kc_50 ≤ mc by omega) (show ks_51 ≤ ms by omega) ?_
            exact W.iret hx hb hr (fun t9 ht hW => ⟨⟨_, o_36, rfl, e3.symm, by rw [ht]; exact hP, hD⟩, hS.F ht⟩) hS.2.2 d_Machine_finishMapped_175
        · replace hm := if_f c_26 hm
          refine lv_aload_n hx hb d_Machine_finishMapped_111 rfl (lv_at hl 1 rfl) ?_
          obtain ⟨i_53, a_54, r_55, h_52, hm⟩ := ob_some hm
          have hFc := x_free hD hS hA
          refine xg_calli (va_runV (As := []) (rest := []) ⟨hx, hb, hml, hown, hts⟩ (x_Machine_awaitTurn l dC dI cI adK adV adA u o g H.size n h_52) (cwV 0 hts (tw_GV tw_cons cw_Machine_awaitTurn lk_Machine_261 in_Machine_awaitTurn sel_Machine_awaitTurn ini_Machine) rfl rfl rfl ⟨rfl, hd_Machine_awaitTurn⟩ ⟨Nat.le_of_ble_eq_true rfl, Nat.le_of_ble_eq_true rfl⟩) (xpV hK hP hD hS hE hFc xo_11 rfl) rfl rfl hl.1 rfl (lv_room (Nat.le_of_ble_eq_true rfl)) d_Machine_finishMapped_112 ⟨show kc_24 + 0 ≤ mc by omega, show ks_25 + 0 ≤ ms by omega⟩) hS (fun q _ h => hFc q h) hFc (fun kc_56 ks_57 r9 u9 t9 H locs ekc eks ht hvm e9 hB hz1 hk1 hS => ?_)
          replace hkc : kc_56 + k2.1 = mc := by omega
          replace hks : ks_57 + k2.2 = ms := by omega
          clear ekc eks
          have e9 : r_55 = r9 := e9
          subst e9
          obtain ⟨hP, hD⟩ := x_aft hB ht hFc
          clear hFc hk1 hz1 hvm hB ht
          obtain ⟨e1, e2, e4, e5, e6, e3⟩ := re5 hm
          obtain ⟨hP, hD⟩ := x_eqg e1 e2 e4 hP hD
          refine W.widen (k := mc) (n := ms) (show kc_56 ≤ mc by omega) (show ks_57 ≤ ms by omega) ?_
          exact W.iret hx hb hr (fun t9 ht hW => ⟨⟨_, o, rfl, e3.symm, by rw [ht]; exact hP, hD⟩, hS.F ht⟩) hS.2.2 d_Machine_finishMapped_115
      · replace hm := if_f c_9 hm
        refine lv_ldcw (v := (-2147483640)) hx hb hown (htt _ lk_Machine_296) d_Machine_finishMapped_48 ?_
        obtain ⟨e1, e2, e4, e5, e6, e3⟩ := re5 hm
        obtain ⟨hP, hD⟩ := x_eqg e1 e2 e4 hP hD
        refine W.widen (k := mc) (n := ms) (show kc_5 ≤ mc by omega) (show ks_6 ≤ ms by omega) ?_
        exact W.iret hx hb hr (fun t9 ht hW => ⟨⟨_, o, rfl, e3.symm, by rw [ht]; exact hP, hD⟩, hS.F ht⟩) hS.2.2 d_Machine_finishMapped_51
  · replace hm := if_t c_1 hm
    refine lv_ldc (v := (-2147483644)) hx hb hown (htt _ lk_Machine_160) d_Machine_finishMapped_6 ?_
    obtain ⟨e1, e2, e4, e5, e6, e3⟩ := re5 hm
    obtain ⟨hP, hD⟩ := x_eqg e1 e2 e4 hP hD
    refine W.widen (k := mc) (n := ms) (show 0 ≤ mc by omega) (show 0 ≤ ms by omega) ?_
    exact W.iret hx hb hr (fun t9 ht hW => ⟨⟨_, o, rfl, e3.symm, by rw [ht]; exact hP, hD⟩, hS.F ht⟩) hS.2.2 d_Machine_finishMapped_8

def m_Machine_fail (n : Nat) (g : Nat → Nat) (i : Nat → Int32) (a : Nat → Nat → Int32) (v1 : Int32) : Option ((Nat → Int32) × (Nat → Nat → Int32) × Int32) := ob0 (m_Line_newestCatch n g i a (i 6)) (fun r_2 => if ((0 : Int32)) ≤ r_2 then ob1 (upd i 39 v1 : Nat → Int32) (fun i_4 => ob (m_Machine_leave n g i_4 a r_2) (fun i_6 a_7 r_8 => ob1 (upd i_6 47 ((-2147483648)) : Nat → Int32) (fun i_9 => some (i_9, a_7, (0 : Int32))))) else ob (m_Machine_finishLine n g i a (3 : Int32) v1) (fun i_11 a_12 r_13 => some (i_11, a_12, (0 : Int32))))
set_option maxHeartbeats 4000000 in
set_option maxRecDepth 100000 in
theorem x_Machine_fail (l : Launch) (dC : Nat → ClassId) (dI : Nat → Nat → Nat) (cI : ClassId) (adK adV adA u o g : Nat → Nat) (sz : Nat) (n : Nat) {i : Nat → Int32} {a : Nat → Nat → Int32} {v1 : Int32} {i2 : Nat → Int32} {a2 : Nat → Nat → Int32} {r2 : Int32} (hm : m_Machine_fail n g i a v1 = some (i2, a2, r2)) : Met l y_Machine_fail w_Machine_fail ({ frames := 3, cells := 0, slots := 0, locals := 65 } : Room) (va_Pc [.ref ((u 11)), .int v1] (xE dC dI cI adK adV adA u o g i a sz)) (va_Qv xV (xB dC dI cI u o g i2 a2 (va_A (TW cI u o i a g) sz)) (va_A (TW cI u o i a g) sz)) 0 0 ((va_A (TW cI u o i a g) sz)) := by
  refine Met.ofW (cc := b_Machine_fail) (maxL := 3) (ret := none) (by decide) rfl ?_
  intro p e s m args below meth c s₁ B hml hv
  obtain ⟨rfl, hsz, hP, hK, hE, hD0⟩ := hv
  have hx := B.exec
  have hb := B.bytes
  have hr := B.returns
  have hts := atoms_spec (ws := w_Machine_fail) B.pre
  have htt : ∀ w ∈ tw_T, w.before _ s = true := fun w h => hts w (List.mem_cons_of_mem _ h)
  have hown : s.vm.findClass R_Machine = some m.cls := findClass_of_methodNamed B.named
  have hlocks := B.notSynchronized
  subst hsz
  have hD := hD0.self (sz := s.heap.size)
  generalize hAe : (va_A (TW cI u o i a g) s.heap.size) = A at hD hE ⊢
  have hA : ∀ q : Nat, s.heap.size ≤ q → A q := fun q h => by rw [← hAe]; exact Or.inr h
  have hS : va_S A s.heap s.heap [] := va_S.rf
  have hl := lv_entry ([.ref ((u 11)), .int v1]) (n := 3) (Nat.le_of_ble_eq_true rfl)
  rw [lg_entry_eq]
  generalize (lg_sl ([.ref ((u 11)), .int v1]) ++ List.replicate (3 - (lg_sl ([.ref ((u 11)), .int v1])).length) Slot.unset).toArray = ls at hl ⊢
  have hl : lv_has ls 3 [(0, .ref ((u 11))), (1, .int v1)] := hl
  rw [m_Machine_fail] at hm
  refine lv_aload_n hx hb d_Machine_fail_0 rfl (lv_at hl 0 rfl) ?_
  refine va_get (D := (dC, dI)) (ci := 11) (v := .ref ((u 8))) (C := R_Machine) (T := F_Machine) (N := 9) hx hb htt iw_Machine hown hK hP 11 xo_11 rfl 1 (Nat.le_of_ble_eq_true rfl) (htt _ lk_Machine_18) (fun _ h9 => h9) xg_11_1 d_Machine_fail_1 ?_
  refine lv_aload_n hx hb d_Machine_fail_4 rfl (lv_at hl 0 rfl) ?_
  refine va_get (D := (dC, dI)) (ci := 11) (v := .ref ((u 1))) (C := R_Machine) (T := F_Machine) (N := 9) hx hb htt iw_Machine hown hK hP 11 xo_11 rfl 0 (Nat.le_of_ble_eq_true rfl) (htt _ lk_Machine_15) (fun _ h9 => h9) xg_11_0 d_Machine_fail_5 ?_
  refine va_get (D := (dC, dI)) (ci := 1) (v := .int (i 6)) (C := R_Heap) (T := F_Heap) (N := 12) hx hb htt iw_Heap hown hK hP 1 xo_1 rfl 3 (Nat.le_of_ble_eq_true rfl) (htt _ lk_Machine_118) (fun _ h9 => h9) xg_1_3 d_Machine_fail_8 ?_
  obtain ⟨r_2, h_1, hm⟩ := ob0_some hm
  have hFc := x_free0 hS hA
  refine va_calli (va_runV (As := [.int (i 6)]) (rest := []) ⟨hx, hb, hml, hown, hts⟩ (x_Line_newestCatch l dC dI cI adK adV adA u o g s.heap.size n h_1) (cwV 1 hts (tw_GV tw_cons cw_Line_newestCatch lk_Machine_123 in_Line_newestCatch sel_Line_newestCatch ini_Line) rfl rfl rfl ⟨rfl, hd_Line_newestCatch⟩ ⟨Nat.le_of_ble_eq_true rfl, Nat.le_of_ble_eq_true rfl⟩) (xpVr hK hP hS hE hFc xo_8 rfl) rfl rfl hl.1 rfl (lv_room (Nat.le_of_ble_eq_true rfl)) d_Machine_fail_11 ⟨Nat.le_of_ble_eq_true rfl, Nat.le_of_ble_eq_true rfl⟩) hS (fun q _ h => hFc q h) hFc (fun r9 u9 t9 H locs ht hvm e9 hB hz1 hk1 hS => ?_)
  have e9 : r_2 = r9 := e9
  subst e9
  replace hP := x_keep hP hk1
  clear hFc hk1 hz1 hvm hB ht
  refine lv_istore_n (lv' := [(2, .int r_2), (0, .ref ((u 11))), (1, .int v1)]) hx hb d_Machine_fail_14 rfl hl (by decide) rfl (fun ls hl => ?_)
  refine lv_iload_n hx hb d_Machine_fail_15 rfl (lv_at hl 0 rfl) ?_
  refine lv_if_ge (tgt := 26) hx hb d_Machine_fail_16 (by decide) (fun c_3 => ?_) (fun c_3 => ?_)
  · replace hm := if_t c_3 hm
    refine lv_aload_n hx hb d_Machine_fail_26 rfl (lv_at hl 1 rfl) ?_
    refine va_get (D := (dC, dI)) (ci := 11) (v := .ref ((u 8))) (C := R_Machine) (T := F_Machine) (N := 9) hx hb htt iw_Machine hown hK hP 11 xo_11 rfl 1 (Nat.le_of_ble_eq_true rfl) (htt _ lk_Machine_18) (fun _ h9 => h9) xg_11_1 d_Machine_fail_27 ?_
    refine lv_iload_n hx hb d_Machine_fail_30 rfl (lv_at hl 2 rfl) ?_
    refine va_put (D := (dC, dI)) (ci := 8) (v := .int v1) (ty := .int) (C := R_Line) (T := F_Line) (N := 18) hx hb htt iw_Line t_Line t_Line_ok n_Line hown hK hP hD hS 8 xo_8 rfl 5 (Nat.le_of_ble_eq_true rfl) (htt _ lk_Machine_127) (fun _ h9 => h9) rfl (by decide +kernel) rfl rfl xl_8_5 d_Machine_fail_31 (fun H locs hP hD hS => ?_)
    obtain ⟨i_4, ei_4⟩ : ∃ y9 : Nat → Int32, y9 = upd i 39 v1 := ⟨_, rfl⟩
    replace hm := ob1_at ei_4 hm
    obtain ⟨hP, hD⟩ := xw_39 ei_4 hP hD
    refine lv_aload_n hx hb d_Machine_fail_34 rfl (lv_at hl 1 rfl) ?_
    refine lv_iload_n hx hb d_Machine_fail_35 rfl (lv_at hl 0 rfl) ?_
    obtain ⟨i_6, a_7, r_8, h_5, hm⟩ := ob_some hm
    have hFc := x_free hD hS hA
    refine va_callv (va_runV (As := [.int r_2]) (rest := []) ⟨hx, hb, hml, hown, hts⟩ (x_Machine_leave l dC dI cI adK adV adA u o g H.size n h_5) (cwV 1 hts (tw_GV tw_cons cw_Machine_leave lk_Machine_87 in_Machine_leave sel_Machine_leave ini_Machine) rfl rfl rfl ⟨rfl, hd_Machine_leave⟩ ⟨Nat.le_of_ble_eq_true rfl, Nat.le_of_ble_eq_true rfl⟩) (xpV hK hP hD hS hE hFc xo_11 rfl) rfl rfl hl.1 rfl (lv_room (Nat.le_of_ble_eq_true rfl)) d_Machine_fail_36 ⟨Nat.le_of_ble_eq_true rfl, Nat.le_of_ble_eq_true rfl⟩) hS (fun q _ h => hFc q h) hFc (fun u9 t9 H locs ht hvm e9 hB hz1 hk1 hS => ?_)
    obtain ⟨hP, hD⟩ := x_aft hB ht hFc
    clear hFc hk1 hz1 hvm hB ht
    refine lv_aload_n hx hb d_Machine_fail_39 rfl (lv_at hl 1 rfl) ?_
    refine lv_ldc (v := (-2147483648)) hx hb hown (htt _ lk_Machine_114) d_Machine_fail_40 ?_
    refine va_put (D := (dC, dI)) (ci := 11) (v := .int ((-2147483648))) (ty := .int) (C := R_Machine) (T := F_Machine) (N := 9) hx hb htt iw_Machine t_Machine t_Machine_ok n_Machine hown hK hP hD hS 11 xo_11 rfl 8 (Nat.le_of_ble_eq_true rfl) (htt _ lk_Machine_111) (fun _ h9 => h9) rfl (by decide +kernel) rfl rfl xl_11_8 d_Machine_fail_42 (fun H locs hP hD hS => ?_)
    obtain ⟨i_9, ei_9⟩ : ∃ y9 : Nat → Int32, y9 = upd i_6 47 ((-2147483648)) := ⟨_, rfl⟩
    replace hm := ob1_at ei_9 hm
    obtain ⟨hP, hD⟩ := xw_47 ei_9 hP hD
    obtain ⟨e1i, e1a, e3⟩ := re3 hm
    obtain ⟨hP, hD⟩ := x_eq e1i e1a hP hD
    exact W.vret hx hb hr (fun t9 ht hW => ⟨⟨(), rfl, trivial, by rw [ht]; exact hP, hD⟩, hS.F ht⟩) hS.2.2 d_Machine_fail_45
  · replace hm := if_f c_3 hm
    refine lv_aload_n hx hb d_Machine_fail_19 rfl (lv_at hl 1 rfl) ?_
    refine lv_iconst (v := 3) hx hb d_Machine_fail_20 (by decide) ?_
    refine lv_iload_n hx hb d_Machine_fail_21 rfl (lv_at hl 2 rfl) ?_
    obtain ⟨i_11, a_12, r_13, h_10, hm⟩ := ob_some hm
    have hFc := x_free hD hS hA
    refine va_callv (va_runV (As := [.int 3, .int v1]) (rest := []) ⟨hx, hb, hml, hown, hts⟩ (x_Machine_finishLine l dC dI cI adK adV adA u o g H.size n h_10) (cwV 2 hts (tw_GV tw_cons cw_Machine_finishLine lk_Machine_106 in_Machine_finishLine sel_Machine_finishLine ini_Machine) rfl rfl rfl ⟨rfl, hd_Machine_finishLine⟩ ⟨Nat.le_of_ble_eq_true rfl, Nat.le_of_ble_eq_true rfl⟩) (xpV hK hP hD hS hE hFc xo_11 rfl) rfl rfl hl.1 rfl (lv_room (Nat.le_of_ble_eq_true rfl)) d_Machine_fail_22 ⟨Nat.le_of_ble_eq_true rfl, Nat.le_of_ble_eq_true rfl⟩) hS (fun q _ h => hFc q h) hFc (fun u9 t9 H locs ht hvm e9 hB hz1 hk1 hS => ?_)
    obtain ⟨hP, hD⟩ := x_aft hB ht hFc
    clear hFc hk1 hz1 hvm hB ht
    obtain ⟨e1i, e1a, e3⟩ := re3 hm
    obtain ⟨hP, hD⟩ := x_eq e1i e1a hP hD
    exact W.vret hx hb hr (fun t9 ht hW => ⟨⟨(), rfl, trivial, by rw [ht]; exact hP, hD⟩, hS.F ht⟩) hS.2.2 d_Machine_fail_25

def m_Turtles_forward_b183 (n : Nat) (g : Nat → Nat) (i : Nat → Int32) (a : Nat → Nat → Int32) (v2 : Int32) : Option ((Nat → Int32) × (Nat → Nat → Int32) × Int32) := cy ((0 : Int32)) v2 ((4 : Int32)) 4 56 (ob1 (updA a 20 (va_cpy (a 23) (a 20) (0 : Int32).toNatClampNeg v2.toNatClampNeg (4 : Int32).toNatClampNeg) : Nat → Nat → Int32) (fun a_2 => some (i, a_2, (-2147483648))))
set_option maxHeartbeats 4000000 in
set_option maxRecDepth 100000 in
theorem lb_Turtles_forward_183 (l : Launch) (dC : Nat → ClassId) (dI : Nat → Nat → Nat) (cI : ClassId) (adK adV adA u o g : Nat → Nat) (n : Nat) {p : Program} {e : Env} {s : State} {m : MethodId} {args : Array Value} {below : List Frame} {meth : Method} {c : Code} {A : Nat → Prop} (hx : p.tables.exec = Jvm.exec) (hb : c.code = b_Turtles_forward) (hml : c.maxLocals = 7) (hown : s.vm.findClass R_Turtles = some m.cls) (hts : ∀ w ∈ w_Turtles_forward, w.before args s = true) (hK : va_K (dC, dI) classes [(cI, .int)] s) (hE : tw_E adK adV adA A s s.heap) (hA : ∀ q : Nat, s.heap.size ≤ q → A q) (hr : meth.sig.returnType = (some .int)) (hlocks : meth.locks = false) {i2 : Nat → Int32} {a2 : Nat → Nat → Int32} {r2 : Int32} (i : Nat → Int32) (a : Nat → Nat → Int32) (v2 : Int32) (hm : m_Turtles_forward_b183 n g i a v2 = some (i2, a2, r2)) : ∀ (H : Heap) (locs : List Loc) (ls : Array Slot), va_P (dC, dI) classes (TW cI u o i a g) H → va_D A (TW cI u o i a g) → va_S A s.heap H locs → lv_has ls 7 [(0, .ref ((u 5))), (2, .int v2)] → W p l e ({ frames := 3, cells := 0, slots := 0, locals := 89 } : Room) s m args below meth c H locs 0 0 (MQ below (va_Qi (xR r2) (xB dC dI cI u o g i2 a2 A) A) args s 0 0 A) (F0 m 183 ls []) := by
  have htt : ∀ w ∈ tw_T, w.before _ s = true := fun w h => hts w (List.mem_cons_of_mem _ h)
  intro H locs ls hP hD hS hl
  rw [m_Turtles_forward_b183] at hm
  refine lv_aload_n hx hb d_Turtles_forward_183 rfl (lv_at hl 0 rfl) ?_
  refine va_get (D := (dC, dI)) (ci := 5) (v := .ref ((u 33))) (C := R_Turtles) (T := F_Turtles) (N := 8) hx hb htt iw_Turtles hown hK hP 5 xo_5 rfl 4 (Nat.le_of_ble_eq_true rfl) (htt _ lk_Turtles_21) (fun _ h9 => h9) xg_5_4 d_Turtles_forward_184 ?_
  refine lv_iconst (v := 0) hx hb d_Turtles_forward_187 (by decide) ?_
  refine lv_aload_n hx hb d_Turtles_forward_188 rfl (lv_at hl 0 rfl) ?_
  refine va_get (D := (dC, dI)) (ci := 5) (v := .ref ((u 30))) (C := R_Turtles) (T := F_Turtles) (N := 8) hx hb htt iw_Turtles hown hK hP 5 xo_5 rfl 0 (Nat.le_of_ble_eq_true rfl) (htt _ lk_Turtles_11) (fun _ h9 => h9) xg_5_0 d_Turtles_forward_189 ?_
  refine lv_iload_n hx hb d_Turtles_forward_192 rfl (lv_at hl 1 rfl) ?_
  refine lv_iconst (v := 4) hx hb d_Turtles_forward_193 (by decide) ?_
  obtain ⟨h_1a, h_1b, h_1c, h_1d, h_1e, hm⟩ := cy_some hm
  refine va_copyi hx hb (by rw [hml]; exact hl.1.symm) hown (htt _ lk_Turtles_77) (htt _ na_arraycopy) (htt _ st_arraycopy) (htt _ ini_System) hK hP hD hS 35 32 0 0 (ty := .int) twA_23 twA_20 rfl rfl rfl h_1a h_1b h_1c h_1d h_1e (fun _ _ => rfl) (Nat.le_of_ble_eq_true rfl) (Nat.le_of_ble_eq_true rfl) d_Turtles_forward_194 (fun H locs hP hD hS => ?_)
  obtain ⟨a_2, ea_2⟩ : ∃ y9 : Nat → Nat → Int32, y9 = updA a 20 (va_cpy (a 23) (a 20) (0 : Int32).toNatClampNeg v2.toNatClampNeg (4 : Int32).toNatClampNeg) := ⟨_, rfl⟩
  replace hm := ob1_at ea_2 hm
  obtain ⟨hP, hD⟩ := xv_20 ea_2 hP hD
  refine lv_ldc (v := (-2147483648)) hx hb hown (htt _ lk_Turtles_83) d_Turtles_forward_197 ?_
  obtain ⟨e1i, e1a, e3⟩ := re3 hm
  obtain ⟨hP, hD⟩ := x_eq e1i e1a hP hD
  exact W.iret hx hb hr (fun t9 ht hW => ⟨⟨_, (), rfl, e3.symm, by rw [ht]; exact hP, hD⟩, hS.F ht⟩) hS.2.2 d_Turtles_forward_199
def m_Turtles_forward_b72 (n : Nat) (g : Nat → Nat) : Nat → (Nat → Int32) → (Nat → Nat → Int32) → Int32 → Int32 → Int32 → Int32 → Option ((Nat → Int32) × (Nat → Nat → Int32) × Int32)
  | 0, _, _, _, _, _, _ => none
  | f + 1, i, a, v2, v4, v5, v6 => if ((4 : Int32)) ≤ v6 then ck ((v2 + 6)) 56 (if ((a 20 (v2 + 6).toNatClampNeg)) = ((1 : Int32)) then ck ((v2 + 5)) 56 (ob (m_Turtles_draw n g i a v4 (a 20 (v2 + 5).toNatClampNeg)) (fun i_6 a_7 r_8 => m_Turtles_forward_b183 n g i_6 a_7 v2)) else m_Turtles_forward_b183 n g i a v2) else ck ((v2 + v6)) 56 (ck v6 4 (ob1 (sv a 22 v6.toNatClampNeg (a 20 (v2 + v6).toNatClampNeg) : Nat → Nat → Int32) (fun a_11 => ck v6 4 (ck (((v4 * 4) + v6)) 24 (ck v6 4 (ob1 (sv a_11 23 v6.toNatClampNeg ((a_11 22 v6.toNatClampNeg) + (v5 * (tw_st 3 ((v4 * 4) + v6).toNatClampNeg))) : Nat → Nat → Int32) (fun a_15 => ck v6 4 (if ((a_15 23 v6.toNatClampNeg)) < ((-1000000 : Int32)) then some (i, a_15, (-2147483641)) else ck v6 4 (if ((a_15 23 v6.toNatClampNeg)) ≤ ((1000000 : Int32)) then ob1 (v6 + 1 : Int32) (fun x_20 => m_Turtles_forward_b72 n g f i a_15 v2 v4 v5 x_20) else some (i, a_15, (-2147483641)))))))))))
set_option maxHeartbeats 4000000 in
set_option maxRecDepth 100000 in
theorem lb_Turtles_forward_72 (l : Launch) (dC : Nat → ClassId) (dI : Nat → Nat → Nat) (cI : ClassId) (adK adV adA u o g : Nat → Nat) (n : Nat) {p : Program} {e : Env} {s : State} {m : MethodId} {args : Array Value} {below : List Frame} {meth : Method} {c : Code} {A : Nat → Prop} (hx : p.tables.exec = Jvm.exec) (hb : c.code = b_Turtles_forward) (hml : c.maxLocals = 7) (hown : s.vm.findClass R_Turtles = some m.cls) (hts : ∀ w ∈ w_Turtles_forward, w.before args s = true) (hK : va_K (dC, dI) classes [(cI, .int)] s) (hE : tw_E adK adV adA A s s.heap) (hA : ∀ q : Nat, s.heap.size ≤ q → A q) (hr : meth.sig.returnType = (some .int)) (hlocks : meth.locks = false) {i2 : Nat → Int32} {a2 : Nat → Nat → Int32} {r2 : Int32} : ∀ (f : Nat) (i : Nat → Int32) (a : Nat → Nat → Int32) (v2 : Int32) (v4 : Int32) (v5 : Int32) (v6 : Int32), m_Turtles_forward_b72 n g f i a v2 v4 v5 v6 = some (i2, a2, r2) → ∀ (H : Heap) (locs : List Loc) (ls : Array Slot), va_P (dC, dI) classes (TW cI u o i a g) H → va_D A (TW cI u o i a g) → va_S A s.heap H locs → lv_has ls 7 [(0, .ref ((u 5))), (2, .int v2), (4, .int v4), (5, .int v5), (6, .int v6)] → W p l e ({ frames := 3, cells := 0, slots := 0, locals := 89 } : Room) s m args below meth c H locs 0 0 (MQ below (va_Qi (xR r2) (xB dC dI cI u o g i2 a2 A) A) args s 0 0 A) (F0 m 72 ls []) := by
  have htt : ∀ w ∈ tw_T, w.before _ s = true := fun w h => hts w (List.mem_cons_of_mem _ h)
  intro f
  induction f with
  | zero =>
    intro i a v2 v4 v5 v6 hm
    rw [m_Turtles_forward_b72] at hm
    cases hm
  | succ f ih =>
    intro i a v2 v4 v5 v6 hm H locs ls hP hD hS hl
    rw [m_Turtles_forward_b72] at hm
    refine lv_iload hx hb d_Turtles_forward_72 (lv_at hl 4 rfl) ?_
    refine lv_iconst (v := 4) hx hb d_Turtles_forward_74 (by decide) ?_
    refine lv_icmp_ge (tgt := 156) hx hb d_Turtles_forward_75 (by decide) (fun c_1 => ?_) (fun c_1 => ?_)
    · replace hm := if_t c_1 hm
      refine lv_aload_n hx hb d_Turtles_forward_156 rfl (lv_at hl 0 rfl) ?_
      refine va_get (D := (dC, dI)) (ci := 5) (v := .ref ((u 30))) (C := R_Turtles) (T := F_Turtles) (N := 8) hx hb htt iw_Turtles hown hK hP 5 xo_5 rfl 0 (Nat.le_of_ble_eq_true rfl) (htt _ lk_Turtles_11) (fun _ h9 => h9) xg_5_0 d_Turtles_forward_157 ?_
      refine lv_iload_n hx hb d_Turtles_forward_160 rfl (lv_at hl 1 rfl) ?_
      refine lv_bipush (v := 6) hx hb d_Turtles_forward_161 (by decide) ?_
      refine lv_iadd hx hb d_Turtles_forward_163 ?_
      obtain ⟨h_2, hm⟩ := ck_some hm
      refine va_iald hx hb hK hP 32 0 twA_20 rfl h_2 d_Turtles_forward_164 ?_
      refine lv_iconst (v := 1) hx hb d_Turtles_forward_165 (by decide) ?_
      refine lv_icmp_ne (tgt := 183) hx hb d_Turtles_forward_166 (by decide) (fun c_3 => ?_) (fun c_3 => ?_)
      · replace hm := if_f c_3 hm
        exact lb_Turtles_forward_183 l dC dI cI adK adV adA u o g n hx hb hml hown hts hK hE hA hr hlocks _ _ _ hm _ _ _ hP hD hS (lv_sub hl [0, 1] rfl)
      · replace hm := if_t c_3 hm
        refine lv_aload_n hx hb d_Turtles_forward_169 rfl (lv_at hl 0 rfl) ?_
        refine lv_iload hx hb d_Turtles_forward_170 (lv_at hl 2 rfl) ?_
        refine lv_aload_n hx hb d_Turtles_forward_172 rfl (lv_at hl 0 rfl) ?_
        refine va_get (D := (dC, dI)) (ci := 5) (v := .ref ((u 30))) (C := R_Turtles) (T := F_Turtles) (N := 8) hx hb htt iw_Turtles hown hK hP 5 xo_5 rfl 0 (Nat.le_of_ble_eq_true rfl) (htt _ lk_Turtles_11) (fun _ h9 => h9) xg_5_0 d_Turtles_forward_173 ?_
        refine lv_iload_n hx hb d_Turtles_forward_176 rfl (lv_at hl 1 rfl) ?_
        refine lv_iconst (v := 5) hx hb d_Turtles_forward_177 (by decide) ?_
        refine lv_iadd hx hb d_Turtles_forward_178 ?_
        obtain ⟨h_4, hm⟩ := ck_some hm
        refine va_iald hx hb hK hP 32 0 twA_20 rfl h_4 d_Turtles_forward_179 ?_
        obtain ⟨i_6, a_7, r_8, h_5, hm⟩ := ob_some hm
        have hFc := x_free hD hS hA
        refine va_callv (va_runV (As := [.int v4, .int (a 20 (v2 + 5).toNatClampNeg)]) (rest := []) ⟨hx, hb, hml, hown, hts⟩ (x_Turtles_draw l dC dI cI adK adV adA u o g H.size n h_5) (cwV 2 hts (tw_GV tw_cons cw_Turtles_draw lk_Turtles_73 in_Turtles_draw sel_Turtles_draw ini_Turtles) rfl rfl rfl ⟨rfl, hd_Turtles_draw⟩ ⟨Nat.le_of_ble_eq_true rfl, Nat.le_of_ble_eq_true rfl⟩) (xpV hK hP hD hS hE hFc xo_5 rfl) rfl rfl hl.1 rfl (lv_room (Nat.le_of_ble_eq_true rfl)) d_Turtles_forward_180 ⟨Nat.le_of_ble_eq_true rfl, Nat.le_of_ble_eq_true rfl⟩) hS (fun q _ h => hFc q h) hFc (fun u9 t9 H locs ht hvm e9 hB hz1 hk1 hS => ?_)
        obtain ⟨hP, hD⟩ := x_aft hB ht hFc
        clear hFc hk1 hz1 hvm hB ht
        exact lb_Turtles_forward_183 l dC dI cI adK adV adA u o g n hx hb hml hown hts hK hE hA hr hlocks _ _ _ hm _ _ _ hP hD hS (lv_sub hl [0, 1] rfl)
    · replace hm := if_f c_1 hm
      refine lv_aload_n hx hb d_Turtles_forward_78 rfl (lv_at hl 0 rfl) ?_
      refine va_get (D := (dC, dI)) (ci := 5) (v := .ref ((u 32))) (C := R_Turtles) (T := F_Turtles) (N := 8) hx hb htt iw_Turtles hown hK hP 5 xo_5 rfl 3 (Nat.le_of_ble_eq_true rfl) (htt _ lk_Turtles_18) (fun _ h9 => h9) xg_5_3 d_Turtles_forward_79 ?_
      refine lv_iload hx hb d_Turtles_forward_82 (lv_at hl 4 rfl) ?_
      refine lv_aload_n hx hb d_Turtles_forward_84 rfl (lv_at hl 0 rfl) ?_
      refine va_get (D := (dC, dI)) (ci := 5) (v := .ref ((u 30))) (C := R_Turtles) (T := F_Turtles) (N := 8) hx hb htt iw_Turtles hown hK hP 5 xo_5 rfl 0 (Nat.le_of_ble_eq_true rfl) (htt _ lk_Turtles_11) (fun _ h9 => h9) xg_5_0 d_Turtles_forward_85 ?_
      refine lv_iload_n hx hb d_Turtles_forward_88 rfl (lv_at hl 1 rfl) ?_
      refine lv_iload hx hb d_Turtles_forward_89 (lv_at hl 4 rfl) ?_
      refine lv_iadd hx hb d_Turtles_forward_91 ?_
      obtain ⟨h_9, hm⟩ := ck_some hm
      refine va_iald hx hb hK hP 32 0 twA_20 rfl h_9 d_Turtles_forward_92 ?_
      obtain ⟨h_10, hm⟩ := ck_some hm
      refine va_iast hx hb hK hP hD hS 34 0 twA_22 rfl h_10 d_Turtles_forward_93 (fun H locs hP hD hS => ?_)
      obtain ⟨a_11, ea_11⟩ : ∃ y9 : Nat → Nat → Int32, y9 = sv a 22 v6.toNatClampNeg (a 20 (v2 + v6).toNatClampNeg) := ⟨_, rfl⟩
      replace hm := ob1_at ea_11 hm
      obtain ⟨hP, hD⟩ := xv_22 ea_11 hP hD
      refine lv_aload_n hx hb d_Turtles_forward_94 rfl (lv_at hl 0 rfl) ?_
      refine va_get (D := (dC, dI)) (ci := 5) (v := .ref ((u 33))) (C := R_Turtles) (T := F_Turtles) (N := 8) hx hb htt iw_Turtles hown hK hP 5 xo_5 rfl 4 (Nat.le_of_ble_eq_true rfl) (htt _ lk_Turtles_21) (fun _ h9 => h9) xg_5_4 d_Turtles_forward_95 ?_
      refine lv_iload hx hb d_Turtles_forward_98 (lv_at hl 4 rfl) ?_
      refine lv_aload_n hx hb d_Turtles_forward_100 rfl (lv_at hl 0 rfl) ?_
      refine va_get (D := (dC, dI)) (ci := 5) (v := .ref ((u 32))) (C := R_Turtles) (T := F_Turtles) (N := 8) hx hb htt iw_Turtles hown hK hP 5 xo_5 rfl 3 (Nat.le_of_ble_eq_true rfl) (htt _ lk_Turtles_18) (fun _ h9 => h9) xg_5_3 d_Turtles_forward_101 ?_
      refine lv_iload hx hb d_Turtles_forward_104 (lv_at hl 4 rfl) ?_
      obtain ⟨h_12, hm⟩ := ck_some hm
      refine va_iald hx hb hK hP 34 0 twA_22 rfl h_12 d_Turtles_forward_106 ?_
      refine lv_iload hx hb d_Turtles_forward_107 (lv_at hl 3 rfl) ?_
      refine va_gets hx hb (hE.2 3 (by decide)).1 hS hown (htt _ lk_Turtles_67) (fun _ h9 => h9) d_Turtles_forward_109 ?_
      refine lv_iload hx hb d_Turtles_forward_112 (lv_at hl 2 rfl) ?_
      refine lv_iconst (v := 4) hx hb d_Turtles_forward_114 (by decide) ?_
      refine lv_imul hx hb d_Turtles_forward_115 ?_
      refine lv_iload hx hb d_Turtles_forward_116 (lv_at hl 4 rfl) ?_
      refine lv_iadd hx hb d_Turtles_forward_118 ?_
      obtain ⟨h_13, hm⟩ := ck_some hm
      refine va_ti (N := 24) (v := .int (tw_st 3 ((v4 * 4) + v6).toNatClampNeg)) hx hb (hE.2 3 (by decide)).2 hS h_13 rfl d_Turtles_forward_119 ?_
      refine lv_imul hx hb d_Turtles_forward_120 ?_
      refine lv_iadd hx hb d_Turtles_forward_121 ?_
      obtain ⟨h_14, hm⟩ := ck_some hm
      refine va_iast hx hb hK hP hD hS 35 0 twA_23 rfl h_14 d_Turtles_forward_122 (fun H locs hP hD hS => ?_)
      obtain ⟨a_15, ea_15⟩ : ∃ y9 : Nat → Nat → Int32, y9 = sv a_11 23 v6.toNatClampNeg ((a_11 22 v6.toNatClampNeg) + (v5 * (tw_st 3 ((v4 * 4) + v6).toNatClampNeg))) := ⟨_, rfl⟩
      replace hm := ob1_at ea_15 hm
      obtain ⟨hP, hD⟩ := xv_23 ea_15 hP hD
      refine lv_aload_n hx hb d_Turtles_forward_123 rfl (lv_at hl 0 rfl) ?_
      refine va_get (D := (dC, dI)) (ci := 5) (v := .ref ((u 33))) (C := R_Turtles) (T := F_Turtles) (N := 8) hx hb htt iw_Turtles hown hK hP 5 xo_5 rfl 4 (Nat.le_of_ble_eq_true rfl) (htt _ lk_Turtles_21) (fun _ h9 => h9) xg_5_4 d_Turtles_forward_124 ?_
      refine lv_iload hx hb d_Turtles_forward_127 (lv_at hl 4 rfl) ?_
      obtain ⟨h_16, hm⟩ := ck_some hm
      refine va_iald hx hb hK hP 35 0 twA_23 rfl h_16 d_Turtles_forward_129 ?_
      refine lv_ldc (v := (-1000000)) hx hb hown (htt _ lk_Turtles_70) d_Turtles_forward_130 ?_
      refine lv_icmp_lt (tgt := 147) hx hb d_Turtles_forward_132 (by decide) (fun c_17 => ?_) (fun c_17 => ?_)
      · replace hm := if_t c_17 hm
        refine lv_ldc (v := (-2147483641)) hx hb hown (htt _ lk_Turtles_72) d_Turtles_forward_147 ?_
        obtain ⟨e1i, e1a, e3⟩ := re3 hm
        obtain ⟨hP, hD⟩ := x_eq e1i e1a hP hD
        exact W.iret hx hb hr (fun t9 ht hW => ⟨⟨_, (), rfl, e3.symm, by rw [ht]; exact hP, hD⟩, hS.F ht⟩) hS.2.2 d_Turtles_forward_149
      · replace hm := if_f c_17 hm
        refine lv_aload_n hx hb d_Turtles_forward_135 rfl (lv_at hl 0 rfl) ?_
        refine va_get (D := (dC, dI)) (ci := 5) (v := .ref ((u 33))) (C := R_Turtles) (T := F_Turtles) (N := 8) hx hb htt iw_Turtles hown hK hP 5 xo_5 rfl 4 (Nat.le_of_ble_eq_true rfl) (htt _ lk_Turtles_21) (fun _ h9 => h9) xg_5_4 d_Turtles_forward_136 ?_
        refine lv_iload hx hb d_Turtles_forward_139 (lv_at hl 4 rfl) ?_
        obtain ⟨h_18, hm⟩ := ck_some hm
        refine va_iald hx hb hK hP 35 0 twA_23 rfl h_18 d_Turtles_forward_141 ?_
        refine lv_ldc (v := 1000000) hx hb hown (htt _ lk_Turtles_71) d_Turtles_forward_142 ?_
        refine lv_icmp_le (tgt := 150) hx hb d_Turtles_forward_144 (by decide) (fun c_19 => ?_) (fun c_19 => ?_)
        · replace hm := if_t c_19 hm
          obtain ⟨x_20, ex_20⟩ : ∃ y9 : Int32, y9 = v6 + 1 := ⟨_, rfl⟩
          replace hm := ob1_at ex_20 hm
          refine lv_iinc (v := x_20) (lv' := [(6, .int x_20), (0, .ref ((u 5))), (2, .int v2), (4, .int v4), (5, .int v5)]) hx hb d_Turtles_forward_150 hl (k := 4) rfl (by rw [ex_20]; rfl) (by decide) rfl (fun ls hl => ?_)
          refine lv_goto (tgt := 72) hx hb d_Turtles_forward_153 (by decide) ?_
          exact ih _ _ _ _ _ _ hm _ _ _ hP hD hS (lv_sub hl [1, 2, 3, 4, 0] rfl)
        · replace hm := if_f c_19 hm
          refine lv_ldc (v := (-2147483641)) hx hb hown (htt _ lk_Turtles_72) d_Turtles_forward_147 ?_
          obtain ⟨e1i, e1a, e3⟩ := re3 hm
          obtain ⟨hP, hD⟩ := x_eq e1i e1a hP hD
          exact W.iret hx hb hr (fun t9 ht hW => ⟨⟨_, (), rfl, e3.symm, by rw [ht]; exact hP, hD⟩, hS.F ht⟩) hS.2.2 d_Turtles_forward_149
def m_Turtles_forward_b67 (n : Nat) (g : Nat → Nat) (i : Nat → Int32) (a : Nat → Nat → Int32) (v2 : Int32) (v4 : Int32) (s0 : Int32) : Option ((Nat → Int32) × (Nat → Nat → Int32) × Int32) := m_Turtles_forward_b72 n g n i a v2 v4 s0 (0 : Int32)
set_option maxHeartbeats 4000000 in
set_option maxRecDepth 100000 in
theorem lb_Turtles_forward_67 (l : Launch) (dC : Nat → ClassId) (dI : Nat → Nat → Nat) (cI : ClassId) (adK adV adA u o g : Nat → Nat) (n : Nat) {p : Program} {e : Env} {s : State} {m : MethodId} {args : Array Value} {below : List Frame} {meth : Method} {c : Code} {A : Nat → Prop} (hx : p.tables.exec = Jvm.exec) (hb : c.code = b_Turtles_forward) (hml : c.maxLocals = 7) (hown : s.vm.findClass R_Turtles = some m.cls) (hts : ∀ w ∈ w_Turtles_forward, w.before args s = true) (hK : va_K (dC, dI) classes [(cI, .int)] s) (hE : tw_E adK adV adA A s s.heap) (hA : ∀ q : Nat, s.heap.size ≤ q → A q) (hr : meth.sig.returnType = (some .int)) (hlocks : meth.locks = false) {i2 : Nat → Int32} {a2 : Nat → Nat → Int32} {r2 : Int32} (i : Nat → Int32) (a : Nat → Nat → Int32) (v2 : Int32) (v4 : Int32) (s0 : Int32) (hm : m_Turtles_forward_b67 n g i a v2 v4 s0 = some (i2, a2, r2)) : ∀ (H : Heap) (locs : List Loc) (ls : Array Slot), va_P (dC, dI) classes (TW cI u o i a g) H → va_D A (TW cI u o i a g) → va_S A s.heap H locs → lv_has ls 7 [(0, .ref ((u 5))), (2, .int v2), (4, .int v4)] → W p l e ({ frames := 3, cells := 0, slots := 0, locals := 89 } : Room) s m args below meth c H locs 0 0 (MQ below (va_Qi (xR r2) (xB dC dI cI u o g i2 a2 A) A) args s 0 0 A) (F0 m 67 ls [.int s0]) := by
  have htt : ∀ w ∈ tw_T, w.before _ s = true := fun w h => hts w (List.mem_cons_of_mem _ h)
  intro H locs ls hP hD hS hl
  rw [m_Turtles_forward_b67] at hm
  refine lv_istore (lv' := [(5, .int s0), (0, .ref ((u 5))), (2, .int v2), (4, .int v4)]) hx hb d_Turtles_forward_67 hl (by decide) rfl (fun ls hl => ?_)
  refine lv_iconst (v := 0) hx hb d_Turtles_forward_69 (by decide) ?_
  refine lv_istore (lv' := [(6, .int 0), (5, .int s0), (0, .ref ((u 5))), (2, .int v2), (4, .int v4)]) hx hb d_Turtles_forward_70 hl (by decide) rfl (fun ls hl => ?_)
  exact lb_Turtles_forward_72 l dC dI cI adK adV adA u o g n hx hb hml hown hts hK hE hA hr hlocks n _ _ _ _ _ _ hm _ _ _ hP hD hS (lv_sub hl [2, 3, 4, 1, 0] rfl)
def m_Turtles_forward (n : Nat) (g : Nat → Nat) (i : Nat → Int32) (a : Nat → Nat → Int32) (v1 : Int32) : Option ((Nat → Int32) × (Nat → Nat → Int32) × Int32) := if v1 < ((-1000 : Int32)) then some (i, a, (-2147483645)) else if ((1000 : Int32)) < v1 then some (i, a, (-2147483645)) else ob0 (m_Turtles_exists n (i 17)) (fun r_4 => if r_4 = ((0 : Int32)) then some (i, a, (-2147483645)) else ob1 ((i 17) * 7 : Int32) (fun x_6 => ck ((x_6 + 4)) 56 (ob0 (m_Math_floorMod n (a 20 (x_6 + 4).toNatClampNeg) (12 : Int32)) (fun r_9 => ob1 (r_9 - r_9 / 6 * 6 : Int32) (fun x_10 => if ((6 : Int32)) ≤ r_9 then m_Turtles_forward_b67 n g i a x_6 x_10 (-v1) else m_Turtles_forward_b67 n g i a x_6 x_10 v1)))))
set_option maxHeartbeats 4000000 in
set_option maxRecDepth 100000 in
theorem x_Turtles_forward (l : Launch) (dC : Nat → ClassId) (dI : Nat → Nat → Nat) (cI : ClassId) (adK adV adA u o g : Nat → Nat) (sz : Nat) (n : Nat) {i : Nat → Int32} {a : Nat → Nat → Int32} {v1 : Int32} {i2 : Nat → Int32} {a2 : Nat → Nat → Int32} {r2 : Int32} (hm : m_Turtles_forward n g i a v1 = some (i2, a2, r2)) : Met l y_Turtles_forward w_Turtles_forward ({ frames := 3, cells := 0, slots := 0, locals := 89 } : Room) (va_Pc [.ref ((u 5)), .int v1] (xE dC dI cI adK adV adA u o g i a sz)) (va_Qi (xR r2) (xB dC dI cI u o g i2 a2 (va_A (TW cI u o i a g) sz)) (va_A (TW cI u o i a g) sz)) 0 0 ((va_A (TW cI u o i a g) sz)) := by
  refine Met.ofW (cc := b_Turtles_forward) (maxL := 7) (ret := (some .int)) (by decide) rfl ?_
  intro p e s m args below meth c s₁ B hml hv
  obtain ⟨rfl, hsz, hP, hK, hE, hD0⟩ := hv
  have hx := B.exec
  have hb := B.bytes
  have hr := B.returns
  have hts := atoms_spec (ws := w_Turtles_forward) B.pre
  have htt : ∀ w ∈ tw_T, w.before _ s = true := fun w h => hts w (List.mem_cons_of_mem _ h)
  have hown : s.vm.findClass R_Turtles = some m.cls := findClass_of_methodNamed B.named
  have hlocks := B.notSynchronized
  subst hsz
  have hD := hD0.self (sz := s.heap.size)
  generalize hAe : (va_A (TW cI u o i a g) s.heap.size) = A at hD hE ⊢
  have hA : ∀ q : Nat, s.heap.size ≤ q → A q := fun q h => by rw [← hAe]; exact Or.inr h
  have hS : va_S A s.heap s.heap [] := va_S.rf
  have hl := lv_entry ([.ref ((u 5)), .int v1]) (n := 7) (Nat.le_of_ble_eq_true rfl)
  rw [lg_entry_eq]
  generalize (lg_sl ([.ref ((u 5)), .int v1]) ++ List.replicate (7 - (lg_sl ([.ref ((u 5)), .int v1])).length) Slot.unset).toArray = ls at hl ⊢
  have hl : lv_has ls 7 [(0, .ref ((u 5))), (1, .int v1)] := hl
  rw [m_Turtles_forward] at hm
  refine lv_iload_n hx hb d_Turtles_forward_0 rfl (lv_at hl 1 rfl) ?_
  refine lv_sipush (v := -1000) hx hb d_Turtles_forward_1 (by decide) ?_
  refine lv_icmp_lt (tgt := 24) hx hb d_Turtles_forward_4 (by decide) (fun c_1 => ?_) (fun c_1 => ?_)
  · replace hm := if_t c_1 hm
    refine lv_ldc (v := (-2147483645)) hx hb hown (htt _ lk_Turtles_62) d_Turtles_forward_24 ?_
    obtain ⟨e1i, e1a, e3⟩ := re3 hm
    obtain ⟨hP, hD⟩ := x_eq e1i e1a hP hD
    exact W.iret hx hb hr (fun t9 ht hW => ⟨⟨_, (), rfl, e3.symm, by rw [ht]; exact hP, hD⟩, hS.F ht⟩) hS.2.2 d_Turtles_forward_26
  · replace hm := if_f c_1 hm
    refine lv_iload_n hx hb d_Turtles_forward_7 rfl (lv_at hl 1 rfl) ?_
    refine lv_sipush (v := 1000) hx hb d_Turtles_forward_8 (by decide) ?_
    refine lv_icmp_gt (tgt := 24) hx hb d_Turtles_forward_11 (by decide) (fun c_2 => ?_) (fun c_2 => ?_)
    · replace hm := if_t c_2 hm
      refine lv_ldc (v := (-2147483645)) hx hb hown (htt _ lk_Turtles_62) d_Turtles_forward_24 ?_
      obtain ⟨e1i, e1a, e3⟩ := re3 hm
      obtain ⟨hP, hD⟩ := x_eq e1i e1a hP hD
      exact W.iret hx hb hr (fun t9 ht hW => ⟨⟨_, (), rfl, e3.symm, by rw [ht]; exact hP, hD⟩, hS.F ht⟩) hS.2.2 d_Turtles_forward_26
    · replace hm := if_f c_2 hm
      refine lv_aload_n hx hb d_Turtles_forward_14 rfl (lv_at hl 0 rfl) ?_
      refine va_get (D := (dC, dI)) (ci := 5) (v := .int (i 17)) (C := R_Turtles) (T := F_Turtles) (N := 8) hx hb htt iw_Turtles hown hK hP 5 xo_5 rfl 2 (Nat.le_of_ble_eq_true rfl) (htt _ lk_Turtles_34) (fun _ h9 => h9) xg_5_2 d_Turtles_forward_15 ?_
      obtain ⟨r_4, h_3, hm⟩ := ob0_some hm
      have hFc := x_free0 hS hA
      refine va_calli (va_runS (As := [.int (i 17)]) (rest := []) ⟨hx, hb, hml, hown, hts⟩ (x_Turtles_exists l s.heap.size n h_3) (va_cwS 1 hts (tw_GS tw_cons cw_Turtles_exists lk_Turtles_30 st_Turtles_exists ini_Turtles) rfl rfl rfl hd_Turtles_exists ⟨Nat.le_of_ble_eq_true rfl, Nat.le_of_ble_eq_true rfl⟩) xpS0 rfl rfl hl.1 rfl (lv_room (Nat.le_of_ble_eq_true rfl)) d_Turtles_forward_18 ⟨Nat.le_of_ble_eq_true rfl, Nat.le_of_ble_eq_true rfl⟩) hS (fun q _ h => hFc q h) hFc (fun r9 u9 t9 H locs ht hvm e9 hB hz1 hk1 hS => ?_)
      have e9 : r_4 = r9 := e9
      subst e9
      replace hP := x_keep hP hk1
      clear hFc hk1 hz1 hvm hB ht
      refine lv_if_ne (tgt := 27) hx hb d_Turtles_forward_21 (by decide) (fun c_5 => ?_) (fun c_5 => ?_)
      · replace hm := if_f c_5 hm
        refine lv_aload_n hx hb d_Turtles_forward_27 rfl (lv_at hl 0 rfl) ?_
        refine va_get (D := (dC, dI)) (ci := 5) (v := .int (i 17)) (C := R_Turtles) (T := F_Turtles) (N := 8) hx hb htt iw_Turtles hown hK hP 5 xo_5 rfl 2 (Nat.le_of_ble_eq_true rfl) (htt _ lk_Turtles_34) (fun _ h9 => h9) xg_5_2 d_Turtles_forward_28 ?_
        refine lv_bipush (v := 7) hx hb d_Turtles_forward_31 (by decide) ?_
        refine lv_imul hx hb d_Turtles_forward_33 ?_
        refine lv_topi (fun x_6 ex_6 => ?_)
        replace hm := ob1_at ex_6 hm
        refine lv_istore_n (lv' := [(2, .int x_6), (0, .ref ((u 5))), (1, .int v1)]) hx hb d_Turtles_forward_34 rfl hl (by decide) rfl (fun ls hl => ?_)
        refine lv_aload_n hx hb d_Turtles_forward_35 rfl (lv_at hl 1 rfl) ?_
        refine va_get (D := (dC, dI)) (ci := 5) (v := .ref ((u 30))) (C := R_Turtles) (T := F_Turtles) (N := 8) hx hb htt iw_Turtles hown hK hP 5 xo_5 rfl 0 (Nat.le_of_ble_eq_true rfl) (htt _ lk_Turtles_11) (fun _ h9 => h9) xg_5_0 d_Turtles_forward_36 ?_
        refine lv_iload_n hx hb d_Turtles_forward_39 rfl (lv_at hl 0 rfl) ?_
        refine lv_iconst (v := 4) hx hb d_Turtles_forward_40 (by decide) ?_
        refine lv_iadd hx hb d_Turtles_forward_41 ?_
        obtain ⟨h_7, hm⟩ := ck_some hm
        refine va_iald hx hb hK hP 32 0 twA_20 rfl h_7 d_Turtles_forward_42 ?_
        refine lv_bipush (v := 12) hx hb d_Turtles_forward_43 (by decide) ?_
        obtain ⟨r_9, h_8, hm⟩ := ob0_some hm
        have hFc := x_free0 hS hA
        refine va_calli (va_runS (As := [.int (a 20 (x_6 + 4).toNatClampNeg), .int 12]) (rest := []) ⟨hx, hb, hml, hown, hts⟩ (x_Math_floorMod l H.size n h_8) (va_cwS 2 hts (tw_GS tw_cons cw_Math_floorMod lk_Turtles_63 st_Math_floorMod ini_Math) rfl rfl rfl hd_Math_floorMod ⟨Nat.le_of_ble_eq_true rfl, Nat.le_of_ble_eq_true rfl⟩) xpS0 rfl rfl hl.1 rfl (lv_room (Nat.le_of_ble_eq_true rfl)) d_Turtles_forward_45 ⟨Nat.le_of_ble_eq_true rfl, Nat.le_of_ble_eq_true rfl⟩) hS (fun q _ h => hFc q h) hFc (fun r9 u9 t9 H locs ht hvm e9 hB hz1 hk1 hS => ?_)
        have e9 : r_9 = r9 := e9
        subst e9
        replace hP := x_keep hP hk1
        clear hFc hk1 hz1 hvm hB ht
        refine lv_istore_n (lv' := [(3, .int r_9), (2, .int x_6), (0, .ref ((u 5))), (1, .int v1)]) hx hb d_Turtles_forward_48 rfl hl (by decide) rfl (fun ls hl => ?_)
        refine lv_iload_n hx hb d_Turtles_forward_49 rfl (lv_at hl 0 rfl) ?_
        refine lv_bipush (v := 6) hx hb d_Turtles_forward_50 (by decide) ?_
        refine lv_irem hx hb d_Turtles_forward_52 (by decide) ?_
        refine lv_topi (fun x_10 ex_10 => ?_)
        replace hm := ob1_at ex_10 hm
        refine lv_istore (lv' := [(4, .int x_10), (3, .int r_9), (2, .int x_6), (0, .ref ((u 5))), (1, .int v1)]) hx hb d_Turtles_forward_53 hl (by decide) rfl (fun ls hl => ?_)
        refine lv_iload_n hx hb d_Turtles_forward_55 rfl (lv_at hl 1 rfl) ?_
        refine lv_bipush (v := 6) hx hb d_Turtles_forward_56 (by decide) ?_
        refine lv_icmp_ge (tgt := 65) hx hb d_Turtles_forward_58 (by decide) (fun c_11 => ?_) (fun c_11 => ?_)
        · replace hm := if_t c_11 hm
          refine lv_iload_n hx hb d_Turtles_forward_65 rfl (lv_at hl 4 rfl) ?_
          refine lv_ineg hx hb d_Turtles_forward_66 ?_
          exact lb_Turtles_forward_67 l dC dI cI adK adV adA u o g n hx hb hml hown hts hK hE hA hr hlocks _ _ _ _ _ hm _ _ _ hP hD hS (lv_sub hl [3, 2, 0] rfl)
        · replace hm := if_f c_11 hm
          refine lv_iload_n hx hb d_Turtles_forward_61 rfl (lv_at hl 4 rfl) ?_
          refine lv_goto (tgt := 67) hx hb d_Turtles_forward_62 (by decide) ?_
          exact lb_Turtles_forward_67 l dC dI cI adK adV adA u o g n hx hb hml hown hts hK hE hA hr hlocks _ _ _ _ _ hm _ _ _ hP hD hS (lv_sub hl [3, 2, 0] rfl)
      · replace hm := if_t c_5 hm
        refine lv_ldc (v := (-2147483645)) hx hb hown (htt _ lk_Turtles_62) d_Turtles_forward_24 ?_
        obtain ⟨e1i, e1a, e3⟩ := re3 hm
        obtain ⟨hP, hD⟩ := x_eq e1i e1a hP hD
        exact W.iret hx hb hr (fun t9 ht hW => ⟨⟨_, (), rfl, e3.symm, by rw [ht]; exact hP, hD⟩, hS.F ht⟩) hS.2.2 d_Turtles_forward_26
