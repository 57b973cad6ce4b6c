theorem d_Reader_readToken_0 : decode b_Reader_readToken 0 = .ok (.aload_n 0, 1) := by decide +kernel
theorem d_Reader_readToken_1 : decode b_Reader_readToken 1 = .ok (.dup, 1) := by decide +kernel
theorem d_Reader_readToken_2 : decode b_Reader_readToken 2 = .ok (.getfield 81, 3) := by decide +kernel
theorem d_Reader_readToken_5 : decode b_Reader_readToken 5 = .ok (.iconst 1, 1) := by decide +kernel
theorem d_Reader_readToken_6 : decode b_Reader_readToken 6 = .ok (.iadd, 1) := by decide +kernel
theorem d_Reader_readToken_7 : decode b_Reader_readToken 7 = .ok (.putfield 81, 3) := by decide +kernel
theorem d_Reader_readToken_10 : decode b_Reader_readToken 10 = .ok (.aload_n 0, 1) := by decide +kernel
theorem d_Reader_readToken_11 : decode b_Reader_readToken 11 = .ok (.getfield 11, 3) := by decide +kernel
theorem d_Reader_readToken_14 : decode b_Reader_readToken 14 = .ok (.iload_n 1, 1) := by decide +kernel
theorem d_Reader_readToken_15 : decode b_Reader_readToken 15 = .ok (.iaload, 1) := by decide +kernel
theorem d_Reader_readToken_16 : decode b_Reader_readToken 16 = .ok (.bipush 91, 2) := by decide +kernel
theorem d_Reader_readToken_18 : decode b_Reader_readToken 18 = .ok (.if_icmp .ne 11, 3) := by decide +kernel
theorem d_Reader_readToken_21 : decode b_Reader_readToken 21 = .ok (.aload_n 0, 1) := by decide +kernel
theorem d_Reader_readToken_22 : decode b_Reader_readToken 22 = .ok (.iload_n 1, 1) := by decide +kernel
theorem d_Reader_readToken_23 : decode b_Reader_readToken 23 = .ok (.invokevirtual 106, 3) := by decide +kernel
theorem d_Reader_readToken_26 : decode b_Reader_readToken 26 = .ok (.goto 42, 3) := by decide +kernel
theorem d_Reader_readToken_29 : decode b_Reader_readToken 29 = .ok (.aload_n 0, 1) := by decide +kernel
theorem d_Reader_readToken_30 : decode b_Reader_readToken 30 = .ok (.getfield 11, 3) := by decide +kernel
theorem d_Reader_readToken_33 : decode b_Reader_readToken 33 = .ok (.iload_n 1, 1) := by decide +kernel
theorem d_Reader_readToken_34 : decode b_Reader_readToken 34 = .ok (.iaload, 1) := by decide +kernel
theorem d_Reader_readToken_35 : decode b_Reader_readToken 35 = .ok (.bipush 93, 2) := by decide +kernel
theorem d_Reader_readToken_37 : decode b_Reader_readToken 37 = .ok (.if_icmp .ne 11, 3) := by decide +kernel
theorem d_Reader_readToken_40 : decode b_Reader_readToken 40 = .ok (.aload_n 0, 1) := by decide +kernel
theorem d_Reader_readToken_41 : decode b_Reader_readToken 41 = .ok (.iload_n 1, 1) := by decide +kernel
theorem d_Reader_readToken_42 : decode b_Reader_readToken 42 = .ok (.invokevirtual 110, 3) := by decide +kernel
theorem d_Reader_readToken_45 : decode b_Reader_readToken 45 = .ok (.goto 23, 3) := by decide +kernel
theorem d_Reader_readToken_48 : decode b_Reader_readToken 48 = .ok (.aload_n 0, 1) := by decide +kernel
theorem d_Reader_readToken_49 : decode b_Reader_readToken 49 = .ok (.iload_n 1, 1) := by decide +kernel
theorem d_Reader_readToken_50 : decode b_Reader_readToken 50 = .ok (.iload_n 2, 1) := by decide +kernel
theorem d_Reader_readToken_51 : decode b_Reader_readToken 51 = .ok (.invokevirtual 113, 3) := by decide +kernel
theorem d_Reader_readToken_54 : decode b_Reader_readToken 54 = .ok (.istore_n 3, 1) := by decide +kernel
theorem d_Reader_readToken_55 : decode b_Reader_readToken 55 = .ok (.aload_n 0, 1) := by decide +kernel
theorem d_Reader_readToken_56 : decode b_Reader_readToken 56 = .ok (.getfield 51, 3) := by decide +kernel
theorem d_Reader_readToken_59 : decode b_Reader_readToken 59 = .ok (.ifCond .ne 9, 3) := by decide +kernel
theorem d_Reader_readToken_62 : decode b_Reader_readToken 62 = .ok (.aload_n 0, 1) := by decide +kernel
theorem d_Reader_readToken_63 : decode b_Reader_readToken 63 = .ok (.iload_n 3, 1) := by decide +kernel
theorem d_Reader_readToken_64 : decode b_Reader_readToken 64 = .ok (.iload_n 1, 1) := by decide +kernel
theorem d_Reader_readToken_65 : decode b_Reader_readToken 65 = .ok (.invokevirtual 117, 3) := by decide +kernel
theorem d_Reader_readToken_68 : decode b_Reader_readToken 68 = .ok (.return_, 1) := by decide +kernel
theorem lk_Reader_113 : Cond.methodLink "TurtleWorld$Reader" 113 ⟨"TurtleWorld$Reader", "readPlain", "(II)I"⟩ ∈ tw_T := tw_i4 82 (by decide +kernel) (by decide +kernel)
theorem hd_Reader_readPlain : y_Reader_readPlain.cls ≠ "java/lang/invoke/MethodHandle" ∧ y_Reader_readPlain.cls ≠ "java/lang/invoke/VarHandle" ∧ (parseMethodDescriptor y_Reader_readPlain.desc).map (fun d => d.parameters.length) = some 2 := by decide +kernel
theorem in_Reader_readPlain : Cond.instanceMethod ⟨"TurtleWorld$Reader", "readPlain", "(II)I"⟩ ∈ tw_T := tw_i4 84 (by decide +kernel) (by decide +kernel)
theorem sel_Reader_readPlain : Cond.selects "TurtleWorld$Reader" ⟨"TurtleWorld$Reader", "readPlain", "(II)I"⟩ ⟨"TurtleWorld$Reader", "readPlain", "(II)I"⟩ ∈ tw_T := tw_inS 17 (by decide +kernel) (by decide +kernel)
theorem lk_Reader_117 : Cond.methodLink "TurtleWorld$Reader" 117 ⟨"TurtleWorld$Reader", "takePlain", "(II)V"⟩ ∈ tw_T := tw_i4 101 (by decide +kernel) (by decide +kernel)
theorem hd_Reader_takePlain : y_Reader_takePlain.cls ≠ "java/lang/invoke/MethodHandle" ∧ y_Reader_takePlain.cls ≠ "java/lang/invoke/VarHandle" ∧ (parseMethodDescriptor y_Reader_takePlain.desc).map (fun d => d.parameters.length) = some 2 := by decide +kernel
theorem in_Reader_takePlain : Cond.instanceMethod ⟨"TurtleWorld$Reader", "takePlain", "(II)V"⟩ ∈ tw_T := tw_i4 103 (by decide +kernel) (by decide +kernel)
theorem sel_Reader_takePlain : Cond.selects "TurtleWorld$Reader" ⟨"TurtleWorld$Reader", "takePlain", "(II)V"⟩ ⟨"TurtleWorld$Reader", "takePlain", "(II)V"⟩ ∈ tw_T := tw_inS 18 (by decide +kernel) (by decide +kernel)
theorem lk_Reader_110 : Cond.methodLink "TurtleWorld$Reader" 110 ⟨"TurtleWorld$Reader", "closeList", "(I)V"⟩ ∈ tw_T := tw_i4 73 (by decide +kernel) (by decide +kernel)
theorem hd_Reader_closeList : y_Reader_closeList.cls ≠ "java/lang/invoke/MethodHandle" ∧ y_Reader_closeList.cls ≠ "java/lang/invoke/VarHandle" ∧ (parseMethodDescriptor y_Reader_closeList.desc).map (fun d => d.parameters.length) = some 1 := by decide +kernel
theorem in_Reader_closeList : Cond.instanceMethod ⟨"TurtleWorld$Reader", "closeList", "(I)V"⟩ ∈ tw_T := tw_i4 75 (by decide +kernel) (by decide +kernel)
theorem sel_Reader_closeList : Cond.selects "TurtleWorld$Reader" ⟨"TurtleWorld$Reader", "closeList", "(I)V"⟩ ⟨"TurtleWorld$Reader", "closeList", "(I)V"⟩ ∈ tw_T := tw_inS 15 (by decide +kernel) (by decide +kernel)
theorem lk_Reader_106 : Cond.methodLink "TurtleWorld$Reader" 106 ⟨"TurtleWorld$Reader", "openList", "(I)V"⟩ ∈ tw_T := tw_i4 51 (by decide +kernel) (by decide +kernel)
theorem hd_Reader_openList : y_Reader_openList.cls ≠ "java/lang/invoke/MethodHandle" ∧ y_Reader_openList.cls ≠ "java/lang/invoke/VarHandle" ∧ (parseMethodDescriptor y_Reader_openList.desc).map (fun d => d.parameters.length) = some 1 := by decide +kernel
theorem in_Reader_openList : Cond.instanceMethod ⟨"TurtleWorld$Reader", "openList", "(I)V"⟩ ∈ tw_T := tw_i4 53 (by decide +kernel) (by decide +kernel)
theorem sel_Reader_openList : Cond.selects "TurtleWorld$Reader" ⟨"TurtleWorld$Reader", "openList", "(I)V"⟩ ⟨"TurtleWorld$Reader", "openList", "(I)V"⟩ ∈ tw_T := tw_inS 13 (by decide +kernel) (by decide +kernel)
theorem lk_Heap_171 : Cond.methodLink "TurtleWorld$Heap" 171 ⟨"TurtleWorld$Heap", "behindWord", "(I)I"⟩ ∈ tw_T := tw_i4 212 (by decide +kernel) (by decide +kernel)
theorem hd_Heap_behindWord : y_Heap_behindWord.cls ≠ "java/lang/invoke/MethodHandle" ∧ y_Heap_behindWord.cls ≠ "java/lang/invoke/VarHandle" ∧ (parseMethodDescriptor y_Heap_behindWord.desc).map (fun d => d.parameters.length) = some 1 := by decide +kernel
theorem in_Heap_behindWord : Cond.instanceMethod ⟨"TurtleWorld$Heap", "behindWord", "(I)I"⟩ ∈ tw_T := tw_i4 214 (by decide +kernel) (by decide +kernel)
theorem sel_Heap_behindWord : Cond.selects "TurtleWorld$Heap" ⟨"TurtleWorld$Heap", "behindWord", "(I)I"⟩ ⟨"TurtleWorld$Heap", "behindWord", "(I)I"⟩ ∈ tw_T := tw_inS 30 (by decide +kernel) (by decide +kernel)
theorem hd_Heap_moveMembers : y_Heap_moveMembers.cls ≠ "java/lang/invoke/MethodHandle" ∧ y_Heap_moveMembers.cls ≠ "java/lang/invoke/VarHandle" ∧ (parseMethodDescriptor y_Heap_moveMembers.desc).map (fun d => d.parameters.length) = some 1 := by decide +kernel
theorem lk_Machine_77 : Cond.fieldLink "TurtleWorld$Machine" 77 "TurtleWorld$Line" "done" "I" ∈ tw_T := tw_i3 1 (by decide +kernel) (by decide +kernel)
theorem hd_Machine_finishList : y_Machine_finishList.cls ≠ "java/lang/invoke/MethodHandle" ∧ y_Machine_finishList.cls ≠ "java/lang/invoke/VarHandle" ∧ (parseMethodDescriptor y_Machine_finishList.desc).map (fun d => d.parameters.length) = some 0 := by decide +kernel
theorem hd_Machine_take : y_Machine_take.cls ≠ "java/lang/invoke/MethodHandle" ∧ y_Machine_take.cls ≠ "java/lang/invoke/VarHandle" ∧ (parseMethodDescriptor y_Machine_take.desc).map (fun d => d.parameters.length) = some 1 := by decide +kernel
theorem lk_Machine_100 : Cond.methodLink "TurtleWorld$Machine" 100 ⟨"TurtleWorld$Machine", "settle", "()I"⟩ ∈ tw_T := tw_i5 101 (by decide +kernel) (by decide +kernel)
theorem hd_Machine_settle : y_Machine_settle.cls ≠ "java/lang/invoke/MethodHandle" ∧ y_Machine_settle.cls ≠ "java/lang/invoke/VarHandle" ∧ (parseMethodDescriptor y_Machine_settle.desc).map (fun d => d.parameters.length) = some 0 := by decide +kernel
theorem in_Machine_settle : Cond.instanceMethod ⟨"TurtleWorld$Machine", "settle", "()I"⟩ ∈ tw_T := tw_i5 103 (by decide +kernel) (by decide +kernel)
theorem sel_Machine_settle : Cond.selects "TurtleWorld$Machine" ⟨"TurtleWorld$Machine", "settle", "()I"⟩ ⟨"TurtleWorld$Machine", "settle", "()I"⟩ ∈ tw_T := tw_inS 38 (by decide +kernel) (by decide +kernel)
theorem hd_Machine_meet : y_Machine_meet.cls ≠ "java/lang/invoke/MethodHandle" ∧ y_Machine_meet.cls ≠ "java/lang/invoke/VarHandle" ∧ (parseMethodDescriptor y_Machine_meet.desc).map (fun d => d.parameters.length) = some 0 := by decide +kernel
theorem d_Machine_applyReady_0 : decode b_Machine_applyReady 0 = .ok (.aload_n 0, 1) := by decide +kernel
theorem d_Machine_applyReady_1 : decode b_Machine_applyReady 1 = .ok (.getfield 22, 3) := by decide +kernel
theorem d_Machine_applyReady_4 : decode b_Machine_applyReady 4 = .ok (.getfield 94, 3) := by decide +kernel
theorem d_Machine_applyReady_7 : decode b_Machine_applyReady 7 = .ok (.istore_n 1, 1) := by decide +kernel
theorem d_Machine_applyReady_8 : decode b_Machine_applyReady 8 = .ok (.aload_n 0, 1) := by decide +kernel
theorem d_Machine_applyReady_9 : decode b_Machine_applyReady 9 = .ok (.getfield 22, 3) := by decide +kernel
theorem d_Machine_applyReady_12 : decode b_Machine_applyReady 12 = .ok (.getfield 42, 3) := by decide +kernel
theorem d_Machine_applyReady_15 : decode b_Machine_applyReady 15 = .ok (.sipush 400, 3) := by decide +kernel
theorem d_Machine_applyReady_18 : decode b_Machine_applyReady 18 = .ok (.invokestatic 68, 3) := by decide +kernel
theorem d_Machine_applyReady_21 : decode b_Machine_applyReady 21 = .ok (.istore_n 2, 1) := by decide +kernel
theorem d_Machine_applyReady_22 : decode b_Machine_applyReady 22 = .ok (.aload_n 0, 1) := by decide +kernel
theorem d_Machine_applyReady_23 : decode b_Machine_applyReady 23 = .ok (.getfield 22, 3) := by decide +kernel
theorem d_Machine_applyReady_26 : decode b_Machine_applyReady 26 = .ok (.getfield 302, 3) := by decide +kernel
theorem d_Machine_applyReady_29 : decode b_Machine_applyReady 29 = .ok (.iload_n 2, 1) := by decide +kernel
theorem d_Machine_applyReady_30 : decode b_Machine_applyReady 30 = .ok (.iaload, 1) := by decide +kernel
theorem d_Machine_applyReady_31 : decode b_Machine_applyReady 31 = .ok (.istore_n 3, 1) := by decide +kernel
theorem d_Machine_applyReady_32 : decode b_Machine_applyReady 32 = .ok (.aload_n 0, 1) := by decide +kernel
theorem d_Machine_applyReady_33 : decode b_Machine_applyReady 33 = .ok (.getfield 22, 3) := by decide +kernel
theorem d_Machine_applyReady_36 : decode b_Machine_applyReady 36 = .ok (.iconst 0, 1) := by decide +kernel
theorem d_Machine_applyReady_37 : decode b_Machine_applyReady 37 = .ok (.putfield 94, 3) := by decide +kernel
theorem d_Machine_applyReady_40 : decode b_Machine_applyReady 40 = .ok (.iload_n 1, 1) := by decide +kernel
theorem d_Machine_applyReady_41 : decode b_Machine_applyReady 41 = .ok (.iconst 3, 1) := by decide +kernel
theorem d_Machine_applyReady_42 : decode b_Machine_applyReady 42 = .ok (.if_icmp .ne 8, 3) := by decide +kernel
theorem d_Machine_applyReady_45 : decode b_Machine_applyReady 45 = .ok (.aload_n 0, 1) := by decide +kernel
theorem d_Machine_applyReady_46 : decode b_Machine_applyReady 46 = .ok (.invokevirtual 305, 3) := by decide +kernel
theorem d_Machine_applyReady_49 : decode b_Machine_applyReady 49 = .ok (.ireturn, 1) := by decide +kernel
theorem d_Machine_applyReady_50 : decode b_Machine_applyReady 50 = .ok (.aload_n 0, 1) := by decide +kernel
theorem d_Machine_applyReady_51 : decode b_Machine_applyReady 51 = .ok (.getfield 22, 3) := by decide +kernel
theorem d_Machine_applyReady_54 : decode b_Machine_applyReady 54 = .ok (.aload_n 0, 1) := by decide +kernel
theorem d_Machine_applyReady_55 : decode b_Machine_applyReady 55 = .ok (.getfield 22, 3) := by decide +kernel
theorem d_Machine_applyReady_58 : decode b_Machine_applyReady 58 = .ok (.getfield 308, 3) := by decide +kernel
theorem d_Machine_applyReady_61 : decode b_Machine_applyReady 61 = .ok (.iload_n 2, 1) := by decide +kernel
theorem d_Machine_applyReady_62 : decode b_Machine_applyReady 62 = .ok (.iaload, 1) := by decide +kernel
theorem d_Machine_applyReady_63 : decode b_Machine_applyReady 63 = .ok (.invokevirtual 311, 3) := by decide +kernel
theorem d_Machine_applyReady_66 : decode b_Machine_applyReady 66 = .ok (.iload_n 1, 1) := by decide +kernel
theorem d_Machine_applyReady_67 : decode b_Machine_applyReady 67 = .ok (.iconst 2, 1) := by decide +kernel
theorem d_Machine_applyReady_68 : decode b_Machine_applyReady 68 = .ok (.if_icmp .ne 9, 3) := by decide +kernel
theorem d_Machine_applyReady_71 : decode b_Machine_applyReady 71 = .ok (.aload_n 0, 1) := by decide +kernel
theorem d_Machine_applyReady_72 : decode b_Machine_applyReady 72 = .ok (.iload_n 2, 1) := by decide +kernel
theorem d_Machine_applyReady_73 : decode b_Machine_applyReady 73 = .ok (.invokevirtual 314, 3) := by decide +kernel
theorem d_Machine_applyReady_76 : decode b_Machine_applyReady 76 = .ok (.ireturn, 1) := by decide +kernel
theorem d_Machine_applyReady_77 : decode b_Machine_applyReady 77 = .ok (.aload_n 0, 1) := by decide +kernel
theorem d_Machine_applyReady_78 : decode b_Machine_applyReady 78 = .ok (.getfield 38, 3) := by decide +kernel
theorem d_Machine_applyReady_81 : decode b_Machine_applyReady 81 = .ok (.iload_n 3, 1) := by decide +kernel
theorem d_Machine_applyReady_82 : decode b_Machine_applyReady 82 = .ok (.invokevirtual 317, 3) := by decide +kernel
theorem d_Machine_applyReady_85 : decode b_Machine_applyReady 85 = .ok (.ifCond .ne 7, 3) := by decide +kernel
theorem d_Machine_applyReady_88 : decode b_Machine_applyReady 88 = .ok (.ldc_w 276, 3) := by decide +kernel
theorem d_Machine_applyReady_91 : decode b_Machine_applyReady 91 = .ok (.ireturn, 1) := by decide +kernel
theorem d_Machine_applyReady_92 : decode b_Machine_applyReady 92 = .ok (.iload_n 3, 1) := by decide +kernel
theorem d_Machine_applyReady_93 : decode b_Machine_applyReady 93 = .ok (.bipush 19, 2) := by decide +kernel
theorem d_Machine_applyReady_95 : decode b_Machine_applyReady 95 = .ok (.if_icmp .gt 12, 3) := by decide +kernel
theorem d_Machine_applyReady_98 : decode b_Machine_applyReady 98 = .ok (.aload_n 0, 1) := by decide +kernel
theorem d_Machine_applyReady_99 : decode b_Machine_applyReady 99 = .ok (.getfield 38, 3) := by decide +kernel
theorem d_Machine_applyReady_102 : decode b_Machine_applyReady 102 = .ok (.iload_n 3, 1) := by decide +kernel
theorem d_Machine_applyReady_103 : decode b_Machine_applyReady 103 = .ok (.invokevirtual 322, 3) := by decide +kernel
theorem d_Machine_applyReady_106 : decode b_Machine_applyReady 106 = .ok (.ireturn, 1) := by decide +kernel
theorem d_Machine_applyReady_107 : decode b_Machine_applyReady 107 = .ok (.iload_n 3, 1) := by decide +kernel
theorem d_Machine_applyReady_108 : decode b_Machine_applyReady 108 = .ok (.bipush 31, 2) := by decide +kernel
theorem d_Machine_applyReady_110 : decode b_Machine_applyReady 110 = .ok (.if_icmp .gt 12, 3) := by decide +kernel
theorem d_Machine_applyReady_113 : decode b_Machine_applyReady 113 = .ok (.aload_n 0, 1) := by decide +kernel
theorem d_Machine_applyReady_114 : decode b_Machine_applyReady 114 = .ok (.getfield 38, 3) := by decide +kernel
theorem d_Machine_applyReady_117 : decode b_Machine_applyReady 117 = .ok (.iload_n 3, 1) := by decide +kernel
theorem d_Machine_applyReady_118 : decode b_Machine_applyReady 118 = .ok (.invokevirtual 325, 3) := by decide +kernel
theorem d_Machine_applyReady_121 : decode b_Machine_applyReady 121 = .ok (.ireturn, 1) := by decide +kernel
theorem d_Machine_applyReady_122 : decode b_Machine_applyReady 122 = .ok (.iload_n 3, 1) := by decide +kernel
theorem d_Machine_applyReady_123 : decode b_Machine_applyReady 123 = .ok (.bipush 49, 2) := by decide +kernel
theorem d_Machine_applyReady_125 : decode b_Machine_applyReady 125 = .ok (.if_icmp .gt 12, 3) := by decide +kernel
theorem d_Machine_applyReady_128 : decode b_Machine_applyReady 128 = .ok (.aload_n 0, 1) := by decide +kernel
theorem d_Machine_applyReady_129 : decode b_Machine_applyReady 129 = .ok (.getfield 38, 3) := by decide +kernel
theorem d_Machine_applyReady_132 : decode b_Machine_applyReady 132 = .ok (.iload_n 3, 1) := by decide +kernel
theorem d_Machine_applyReady_133 : decode b_Machine_applyReady 133 = .ok (.invokevirtual 328, 3) := by decide +kernel
theorem d_Machine_applyReady_136 : decode b_Machine_applyReady 136 = .ok (.ireturn, 1) := by decide +kernel
theorem d_Machine_applyReady_137 : decode b_Machine_applyReady 137 = .ok (.iload_n 3, 1) := by decide +kernel
theorem d_Machine_applyReady_138 : decode b_Machine_applyReady 138 = .ok (.bipush 59, 2) := by decide +kernel
theorem d_Machine_applyReady_140 : decode b_Machine_applyReady 140 = .ok (.if_icmp .gt 14, 3) := by decide +kernel
theorem d_Machine_applyReady_143 : decode b_Machine_applyReady 143 = .ok (.aload_n 0, 1) := by decide +kernel
theorem d_Machine_applyReady_144 : decode b_Machine_applyReady 144 = .ok (.getfield 38, 3) := by decide +kernel
theorem d_Machine_applyReady_147 : decode b_Machine_applyReady 147 = .ok (.iload_n 3, 1) := by decide +kernel
theorem d_Machine_applyReady_148 : decode b_Machine_applyReady 148 = .ok (.invokevirtual 331, 3) := by decide +kernel
theorem d_Machine_applyReady_151 : decode b_Machine_applyReady 151 = .ok (.goto 8, 3) := by decide +kernel
theorem d_Machine_applyReady_154 : decode b_Machine_applyReady 154 = .ok (.aload_n 0, 1) := by decide +kernel
theorem d_Machine_applyReady_155 : decode b_Machine_applyReady 155 = .ok (.iload_n 3, 1) := by decide +kernel
theorem d_Machine_applyReady_156 : decode b_Machine_applyReady 156 = .ok (.invokevirtual 334, 3) := by decide +kernel
theorem d_Machine_applyReady_159 : decode b_Machine_applyReady 159 = .ok (.ireturn, 1) := by decide +kernel
theorem lk_Machine_308 : Cond.fieldLink "TurtleWorld$Machine" 308 "TurtleWorld$Waiting" "need" "[I" ∈ tw_T := tw_i3 87 (by decide +kernel) (by decide +kernel)
theorem lk_Machine_311 : Cond.methodLink "TurtleWorld$Machine" 311 ⟨"TurtleWorld$Waiting", "release", "(I)V"⟩ ∈ tw_T := tw_i5 207 (by decide +kernel) (by decide +kernel)
theorem hd_Waiting_release : y_Waiting_release.cls ≠ "java/lang/invoke/MethodHandle" ∧ y_Waiting_release.cls ≠ "java/lang/invoke/VarHandle" ∧ (parseMethodDescriptor y_Waiting_release.desc).map (fun d => d.parameters.length) = some 1 := by decide +kernel
theorem in_Waiting_release : Cond.instanceMethod ⟨"TurtleWorld$Waiting", "release", "(I)V"⟩ ∈ tw_T := tw_i5 208 (by decide +kernel) (by decide +kernel)
theorem sel_Waiting_release : Cond.selects "TurtleWorld$Waiting" ⟨"TurtleWorld$Waiting", "release", "(I)V"⟩ ⟨"TurtleWorld$Waiting", "release", "(I)V"⟩ ∈ tw_T := tw_i5 209 (by decide +kernel) (by decide +kernel)
theorem lk_Machine_317 : Cond.methodLink "TurtleWorld$Machine" 317 ⟨"TurtleWorld$Deeds", "inputsFit", "(I)Z"⟩ ∈ tw_T := tw_i5 230 (by decide +kernel) (by decide +kernel)
theorem hd_Deeds_inputsFit : y_Deeds_inputsFit.cls ≠ "java/lang/invoke/MethodHandle" ∧ y_Deeds_inputsFit.cls ≠ "java/lang/invoke/VarHandle" ∧ (parseMethodDescriptor y_Deeds_inputsFit.desc).map (fun d => d.parameters.length) = some 1 := by decide +kernel
theorem in_Deeds_inputsFit : Cond.instanceMethod ⟨"TurtleWorld$Deeds", "inputsFit", "(I)Z"⟩ ∈ tw_T := tw_i5 231 (by decide +kernel) (by decide +kernel)
theorem sel_Deeds_inputsFit : Cond.selects "TurtleWorld$Deeds" ⟨"TurtleWorld$Deeds", "inputsFit", "(I)Z"⟩ ⟨"TurtleWorld$Deeds", "inputsFit", "(I)Z"⟩ ∈ tw_T := tw_i5 232 (by decide +kernel) (by decide +kernel)
theorem lk_Machine_334 : Cond.methodLink "TurtleWorld$Machine" 334 ⟨"TurtleWorld$Machine", "runningWord", "(I)I"⟩ ∈ tw_T := tw_i7 58 (by decide +kernel) (by decide +kernel)
theorem hd_Machine_runningWord : y_Machine_runningWord.cls ≠ "java/lang/invoke/MethodHandle" ∧ y_Machine_runningWord.cls ≠ "java/lang/invoke/VarHandle" ∧ (parseMethodDescriptor y_Machine_runningWord.desc).map (fun d => d.parameters.length) = some 1 := by decide +kernel
theorem in_Machine_runningWord : Cond.instanceMethod ⟨"TurtleWorld$Machine", "runningWord", "(I)I"⟩ ∈ tw_T := tw_i7 60 (by decide +kernel) (by decide +kernel)
theorem sel_Machine_runningWord : Cond.selects "TurtleWorld$Machine" ⟨"TurtleWorld$Machine", "runningWord", "(I)I"⟩ ⟨"TurtleWorld$Machine", "runningWord", "(I)I"⟩ ∈ tw_T := tw_inS 76 (by decide +kernel) (by decide +kernel)
theorem lk_Machine_331 : Cond.methodLink "TurtleWorld$Machine" 331 ⟨"TurtleWorld$Deeds", "otherWord", "(I)I"⟩ ∈ tw_T := tw_i7 6 (by decide +kernel) (by decide +kernel)
theorem hd_Deeds_otherWord : y_Deeds_otherWord.cls ≠ "java/lang/invoke/MethodHandle" ∧ y_Deeds_otherWord.cls ≠ "java/lang/invoke/VarHandle" ∧ (parseMethodDescriptor y_Deeds_otherWord.desc).map (fun d => d.parameters.length) = some 1 := by decide +kernel
theorem in_Deeds_otherWord : Cond.instanceMethod ⟨"TurtleWorld$Deeds", "otherWord", "(I)I"⟩ ∈ tw_T := tw_i7 7 (by decide +kernel) (by decide +kernel)
theorem sel_Deeds_otherWord : Cond.selects "TurtleWorld$Deeds" ⟨"TurtleWorld$Deeds", "otherWord", "(I)I"⟩ ⟨"TurtleWorld$Deeds", "otherWord", "(I)I"⟩ ∈ tw_T := tw_i7 8 (by decide +kernel) (by decide +kernel)
theorem lk_Machine_328 : Cond.methodLink "TurtleWorld$Machine" 328 ⟨"TurtleWorld$Deeds", "valueWord", "(I)I"⟩ ∈ tw_T := tw_i6 166 (by decide +kernel) (by decide +kernel)
theorem hd_Deeds_valueWord : y_Deeds_valueWord.cls ≠ "java/lang/invoke/MethodHandle" ∧ y_Deeds_valueWord.cls ≠ "java/lang/invoke/VarHandle" ∧ (parseMethodDescriptor y_Deeds_valueWord.desc).map (fun d => d.parameters.length) = some 1 := by decide +kernel
theorem in_Deeds_valueWord : Cond.instanceMethod ⟨"TurtleWorld$Deeds", "valueWord", "(I)I"⟩ ∈ tw_T := tw_i6 167 (by decide +kernel) (by decide +kernel)
theorem sel_Deeds_valueWord : Cond.selects "TurtleWorld$Deeds" ⟨"TurtleWorld$Deeds", "valueWord", "(I)I"⟩ ⟨"TurtleWorld$Deeds", "valueWord", "(I)I"⟩ ∈ tw_T := tw_i6 168 (by decide +kernel) (by decide +kernel)
theorem lk_Machine_325 : Cond.methodLink "TurtleWorld$Machine" 325 ⟨"TurtleWorld$Deeds", "numberWord", "(I)I"⟩ ∈ tw_T := tw_i6 146 (by decide +kernel) (by decide +kernel)
theorem hd_Deeds_numberWord : y_Deeds_numberWord.cls ≠ "java/lang/invoke/MethodHandle" ∧ y_Deeds_numberWord.cls ≠ "java/lang/invoke/VarHandle" ∧ (parseMethodDescriptor y_Deeds_numberWord.desc).map (fun d => d.parameters.length) = some 1 := by decide +kernel
theorem in_Deeds_numberWord : Cond.instanceMethod ⟨"TurtleWorld$Deeds", "numberWord", "(I)I"⟩ ∈ tw_T := tw_i6 147 (by decide +kernel) (by decide +kernel)
theorem sel_Deeds_numberWord : Cond.selects "TurtleWorld$Deeds" ⟨"TurtleWorld$Deeds", "numberWord", "(I)I"⟩ ⟨"TurtleWorld$Deeds", "numberWord", "(I)I"⟩ ∈ tw_T := tw_i6 148 (by decide +kernel) (by decide +kernel)
theorem lk_Machine_322 : Cond.methodLink "TurtleWorld$Machine" 322 ⟨"TurtleWorld$Deeds", "turtleWord", "(I)I"⟩ ∈ tw_T := tw_i6 8 (by decide +kernel) (by decide +kernel)
theorem hd_Deeds_turtleWord : y_Deeds_turtleWord.cls ≠ "java/lang/invoke/MethodHandle" ∧ y_Deeds_turtleWord.cls ≠ "java/lang/invoke/VarHandle" ∧ (parseMethodDescriptor y_Deeds_turtleWord.desc).map (fun d => d.parameters.length) = some 1 := by decide +kernel
theorem in_Deeds_turtleWord : Cond.instanceMethod ⟨"TurtleWorld$Deeds", "turtleWord", "(I)I"⟩ ∈ tw_T := tw_i6 9 (by decide +kernel) (by decide +kernel)
theorem sel_Deeds_turtleWord : Cond.selects "TurtleWorld$Deeds" ⟨"TurtleWorld$Deeds", "turtleWord", "(I)I"⟩ ⟨"TurtleWorld$Deeds", "turtleWord", "(I)I"⟩ ∈ tw_T := tw_i6 10 (by decide +kernel) (by decide +kernel)
theorem lk_Machine_314 : Cond.methodLink "TurtleWorld$Machine" 314 ⟨"TurtleWorld$Machine", "openCall", "(I)I"⟩ ∈ tw_T := tw_i5 212 (by decide +kernel) (by decide +kernel)
theorem hd_Machine_openCall : y_Machine_openCall.cls ≠ "java/lang/invoke/MethodHandle" ∧ y_Machine_openCall.cls ≠ "java/lang/invoke/VarHandle" ∧ (parseMethodDescriptor y_Machine_openCall.desc).map (fun d => d.parameters.length) = some 1 := by decide +kernel
theorem in_Machine_openCall : Cond.instanceMethod ⟨"TurtleWorld$Machine", "openCall", "(I)I"⟩ ∈ tw_T := tw_i5 214 (by decide +kernel) (by decide +kernel)
theorem sel_Machine_openCall : Cond.selects "TurtleWorld$Machine" ⟨"TurtleWorld$Machine", "openCall", "(I)I"⟩ ⟨"TurtleWorld$Machine", "openCall", "(I)I"⟩ ∈ tw_T := tw_inS 54 (by decide +kernel) (by decide +kernel)
theorem lk_Machine_305 : Cond.methodLink "TurtleWorld$Machine" 305 ⟨"TurtleWorld$Machine", "beginTurn", "()I"⟩ ∈ tw_T := tw_i5 203 (by decide +kernel) (by decide +kernel)
theorem hd_Machine_beginTurn : y_Machine_beginTurn.cls ≠ "java/lang/invoke/MethodHandle" ∧ y_Machine_beginTurn.cls ≠ "java/lang/invoke/VarHandle" ∧ (parseMethodDescriptor y_Machine_beginTurn.desc).map (fun d => d.parameters.length) = some 0 := by decide +kernel
theorem in_Machine_beginTurn : Cond.instanceMethod ⟨"TurtleWorld$Machine", "beginTurn", "()I"⟩ ∈ tw_T := tw_i5 205 (by decide +kernel) (by decide +kernel)
theorem sel_Machine_beginTurn : Cond.selects "TurtleWorld$Machine" ⟨"TurtleWorld$Machine", "beginTurn", "()I"⟩ ⟨"TurtleWorld$Machine", "beginTurn", "()I"⟩ ∈ tw_T := tw_inS 53 (by decide +kernel) (by decide +kernel)
theorem hd_Reader_begin : y_Reader_begin.cls ≠ "java/lang/invoke/MethodHandle" ∧ y_Reader_begin.cls ≠ "java/lang/invoke/VarHandle" ∧ (parseMethodDescriptor y_Reader_begin.desc).map (fun d => d.parameters.length) = some 1 := by decide +kernel
theorem hd_Reader_readEnd : y_Reader_readEnd.cls ≠ "java/lang/invoke/MethodHandle" ∧ y_Reader_readEnd.cls ≠ "java/lang/invoke/VarHandle" ∧ (parseMethodDescriptor y_Reader_readEnd.desc).map (fun d => d.parameters.length) = some 0 := by decide +kernel
theorem lk_Reader_58 : Cond.methodLink "TurtleWorld$Reader" 58 ⟨"TurtleWorld$Reader", "tokenEnd", "(I)I"⟩ ∈ tw_T := tw_i4 30 (by decide +kernel) (by decide +kernel)
theorem hd_Reader_tokenEnd : y_Reader_tokenEnd.cls ≠ "java/lang/invoke/MethodHandle" ∧ y_Reader_tokenEnd.cls ≠ "java/lang/invoke/VarHandle" ∧ (parseMethodDescriptor y_Reader_tokenEnd.desc).map (fun d => d.parameters.length) = some 1 := by decide +kernel
theorem in_Reader_tokenEnd : Cond.instanceMethod ⟨"TurtleWorld$Reader", "tokenEnd", "(I)I"⟩ ∈ tw_T := tw_i4 32 (by decide +kernel) (by decide +kernel)
theorem sel_Reader_tokenEnd : Cond.selects "TurtleWorld$Reader" ⟨"TurtleWorld$Reader", "tokenEnd", "(I)I"⟩ ⟨"TurtleWorld$Reader", "tokenEnd", "(I)I"⟩ ∈ tw_T := tw_inS 10 (by decide +kernel) (by decide +kernel)
theorem lk_Reader_62 : Cond.methodLink "TurtleWorld$Reader" 62 ⟨"TurtleWorld$Reader", "readToken", "(II)V"⟩ ∈ tw_T := tw_i4 47 (by decide +kernel) (by decide +kernel)
theorem hd_Reader_readToken : y_Reader_readToken.cls ≠ "java/lang/invoke/MethodHandle" ∧ y_Reader_readToken.cls ≠ "java/lang/invoke/VarHandle" ∧ (parseMethodDescriptor y_Reader_readToken.desc).map (fun d => d.parameters.length) = some 2 := by decide +kernel
theorem in_Reader_readToken : Cond.instanceMethod ⟨"TurtleWorld$Reader", "readToken", "(II)V"⟩ ∈ tw_T := tw_i4 49 (by decide +kernel) (by decide +kernel)
theorem sel_Reader_readToken : Cond.selects "TurtleWorld$Reader" ⟨"TurtleWorld$Reader", "readToken", "(II)V"⟩ ⟨"TurtleWorld$Reader", "readToken", "(II)V"⟩ ∈ tw_T := tw_inS 12 (by decide +kernel) (by decide +kernel)
theorem hd_Heap_beginCollecting : y_Heap_beginCollecting.cls ≠ "java/lang/invoke/MethodHandle" ∧ y_Heap_beginCollecting.cls ≠ "java/lang/invoke/VarHandle" ∧ (parseMethodDescriptor y_Heap_beginCollecting.desc).map (fun d => d.parameters.length) = some 0 := by decide +kernel
theorem hd_Names_moveAll : y_Names_moveAll.cls ≠ "java/lang/invoke/MethodHandle" ∧ y_Names_moveAll.cls ≠ "java/lang/invoke/VarHandle" ∧ (parseMethodDescriptor y_Names_moveAll.desc).map (fun d => d.parameters.length) = some 0 := by decide +kernel
theorem hd_Procedures_moveAll : y_Procedures_moveAll.cls ≠ "java/lang/invoke/MethodHandle" ∧ y_Procedures_moveAll.cls ≠ "java/lang/invoke/VarHandle" ∧ (parseMethodDescriptor y_Procedures_moveAll.desc).map (fun d => d.parameters.length) = some 0 := by decide +kernel
theorem hd_Heap_endCollecting : y_Heap_endCollecting.cls ≠ "java/lang/invoke/MethodHandle" ∧ y_Heap_endCollecting.cls ≠ "java/lang/invoke/VarHandle" ∧ (parseMethodDescriptor y_Heap_endCollecting.desc).map (fun d => d.parameters.length) = some 0 := by decide +kernel
theorem hd_Line_begin : y_Line_begin.cls ≠ "java/lang/invoke/MethodHandle" ∧ y_Line_begin.cls ≠ "java/lang/invoke/VarHandle" ∧ (parseMethodDescriptor y_Line_begin.desc).map (fun d => d.parameters.length) = some 0 := by decide +kernel
theorem hd_Machine_advance : y_Machine_advance.cls ≠ "java/lang/invoke/MethodHandle" ∧ y_Machine_advance.cls ≠ "java/lang/invoke/VarHandle" ∧ (parseMethodDescriptor y_Machine_advance.desc).map (fun d => d.parameters.length) = some 0 := by decide +kernel
theorem lk_Machine_80 : Cond.methodLink "TurtleWorld$Machine" 80 ⟨"TurtleWorld$Machine", "applyReady", "()I"⟩ ∈ tw_T := tw_i5 199 (by decide +kernel) (by decide +kernel)
theorem hd_Machine_applyReady : y_Machine_applyReady.cls ≠ "java/lang/invoke/MethodHandle" ∧ y_Machine_applyReady.cls ≠ "java/lang/invoke/VarHandle" ∧ (parseMethodDescriptor y_Machine_applyReady.desc).map (fun d => d.parameters.length) = some 0 := by decide +kernel
theorem in_Machine_applyReady : Cond.instanceMethod ⟨"TurtleWorld$Machine", "applyReady", "()I"⟩ ∈ tw_T := tw_i5 201 (by decide +kernel) (by decide +kernel)
theorem sel_Machine_applyReady : Cond.selects "TurtleWorld$Machine" ⟨"TurtleWorld$Machine", "applyReady", "()I"⟩ ⟨"TurtleWorld$Machine", "applyReady", "()I"⟩ ∈ tw_T := tw_inS 52 (by decide +kernel) (by decide +kernel)
theorem hd_Reader_read : y_Reader_read.cls ≠ "java/lang/invoke/MethodHandle" ∧ y_Reader_read.cls ≠ "java/lang/invoke/VarHandle" ∧ (parseMethodDescriptor y_Reader_read.desc).map (fun d => d.parameters.length) = some 1 := by decide +kernel
theorem hd_Reader_tellAll : y_Reader_tellAll.cls ≠ "java/lang/invoke/MethodHandle" ∧ y_Reader_tellAll.cls ≠ "java/lang/invoke/VarHandle" ∧ (parseMethodDescriptor y_Reader_tellAll.desc).map (fun d => d.parameters.length) = some 0 := by decide +kernel
theorem hd_World_collect : y_World_collect.cls ≠ "java/lang/invoke/MethodHandle" ∧ y_World_collect.cls ≠ "java/lang/invoke/VarHandle" ∧ (parseMethodDescriptor y_World_collect.desc).map (fun d => d.parameters.length) = some 0 := by decide +kernel
theorem hd_World_keep : y_World_keep.cls ≠ "java/lang/invoke/MethodHandle" ∧ y_World_keep.cls ≠ "java/lang/invoke/VarHandle" ∧ (parseMethodDescriptor y_World_keep.desc).map (fun d => d.parameters.length) = some 0 := by decide +kernel
theorem hd_Machine_begin : y_Machine_begin.cls ≠ "java/lang/invoke/MethodHandle" ∧ y_Machine_begin.cls ≠ "java/lang/invoke/VarHandle" ∧ (parseMethodDescriptor y_Machine_begin.desc).map (fun d => d.parameters.length) = some 1 := by decide +kernel
theorem hd_Machine_goOn : y_Machine_goOn.cls ≠ "java/lang/invoke/MethodHandle" ∧ y_Machine_goOn.cls ≠ "java/lang/invoke/VarHandle" ∧ (parseMethodDescriptor y_Machine_goOn.desc).map (fun d => d.parameters.length) = some 1 := by decide +kernel
theorem lk_World_144 : Cond.methodLink "TurtleWorld" 144 ⟨"TurtleWorld", "takeBack", "()V"⟩ ∈ tw_T := tw_i7 118 (by decide +kernel) (by decide +kernel)
theorem hd_World_takeBack : y_World_takeBack.cls ≠ "java/lang/invoke/MethodHandle" ∧ y_World_takeBack.cls ≠ "java/lang/invoke/VarHandle" ∧ (parseMethodDescriptor y_World_takeBack.desc).map (fun d => d.parameters.length) = some 0 := by decide +kernel
theorem in_World_takeBack : Cond.instanceMethod ⟨"TurtleWorld", "takeBack", "()V"⟩ ∈ tw_T := tw_i7 120 (by decide +kernel) (by decide +kernel)
theorem sel_World_takeBack : Cond.selects "TurtleWorld" ⟨"TurtleWorld", "takeBack", "()V"⟩ ⟨"TurtleWorld", "takeBack", "()V"⟩ ∈ tw_T := tw_inS 87 (by decide +kernel) (by decide +kernel)
def m_Reader_readToken (n : Nat) (g : Nat → Nat) (i : Nat → Int32) (a : Nat → Nat → Int32) (v1 : Int32) (v2 : Int32) : Option ((Nat → Int32) × (Nat → Nat → Int32) × (Nat → Nat) × (Nat × Nat) × Int32) := ob1 ((i 30) + 1 : Int32) (fun x_1 => ob1 (upd i 30 x_1 : Nat → Int32) (fun i_2 => ck v1 4000 (if ((a 31 v1.toNatClampNeg)) = ((91 : Int32)) then obG (m_Reader_openList n g i_2 a v1) (fun i_39 a_40 g_41 r_43 => some (i_39, a_40, g_41, (0, 0), (0 : Int32))) else ck v1 4000 (if ((a 31 v1.toNatClampNeg)) = ((93 : Int32)) then obG (m_Reader_closeList n g i_2 a v1) (fun i_29 a_30 g_31 r_33 => some (i_29, a_30, g_31, (0, 0), (0 : Int32))) else obG (m_Reader_readPlain n g i_2 a v1 v2) (fun i_8 a_9 g_10 r_12 => if ((i_8 26)) = ((0 : Int32)) then obG (m_Reader_takePlain n g_10 i_8 a_9 r_12 v1) (fun i_19 a_20 g_21 r_23 => some (i_19, a_20, g_21, (0, 0), (0 : Int32))) else some (i_8, a_9, g_10, (0, 0), (0 : Int32)))))))
set_option maxHeartbeats 4000000 in
set_option maxRecDepth 100000 in
theorem x_Reader_readToken (l : Launch) (dC : Nat → ClassId) (dI : Nat → Nat → Nat) (cI : ClassId) (adK adV adA u o g : Nat → Nat) (sz : Nat) (n : Nat) {i : Nat → Int32} {a : Nat → Nat → Int32} {v1 : Int32} {v2 : Int32} {i2 : Nat → Int32} {a2 : Nat → Nat → Int32} {g2 : Nat → Nat} {k2 : Nat × Nat} {r2 : Int32} (hm : m_Reader_readToken n g i a v1 v2 = some (i2, a2, g2, k2, r2)) : Met l y_Reader_readToken w_Reader_readToken ({ frames := 7, cells := k2.1, slots := k2.2, locals := 177 } : Room) (va_Pc [.ref ((u 7)), .int v1, .int v2] (xE dC dI cI adK adV adA u o g i a sz)) (va_Qv xVg (xBg dC dI cI u g2 i2 a2 (va_A (TW cI u o i a g) sz)) (va_A (TW cI u o i a g) sz)) k2.1 k2.2 ((va_A (TW cI u o i a g) sz)) := by
  refine Met.ofW (cc := b_Reader_readToken) (maxL := 4) (ret := none) (by decide) rfl ?_
  intro p e s m args below meth c s₁ B hml hv
  obtain ⟨rfl, hsz, hP, hK, hE, hD0⟩ := hv
  have hx := B.exec
  have hb := B.bytes
  have hr := B.returns
  have hts := atoms_spec (ws := w_Reader_readToken) B.pre
  have htt : ∀ w ∈ tw_T, w.before _ s = true := fun w h => hts w (List.mem_cons_of_mem _ h)
  have hown : s.vm.findClass R_Reader = some m.cls := findClass_of_methodNamed B.named
  have hlocks := B.notSynchronized
  subst hsz
  have hD := hD0.self (sz := s.heap.size)
  generalize hAe : (va_A (TW cI u o i a g) s.heap.size) = A at hD hE ⊢
  have hA : ∀ q : Nat, s.heap.size ≤ q → A q := fun q h => by rw [← hAe]; exact Or.inr h
  have hS : va_S A s.heap s.heap [] := va_S.rf
  obtain ⟨mc, ms, emc, ems⟩ : ∃ mc ms : Nat, k2.1 = mc ∧ k2.2 = ms := ⟨_, _, rfl, rfl⟩
  have hkc : 0 + k2.1 = mc := by rw [Nat.zero_add]; exact emc
  have hks : 0 + k2.2 = ms := by rw [Nat.zero_add]; exact ems
  rw [emc, ems]
  clear emc ems
  have hl := lv_entry ([.ref ((u 7)), .int v1, .int v2]) (n := 4) (Nat.le_of_ble_eq_true rfl)
  rw [lg_entry_eq]
  generalize (lg_sl ([.ref ((u 7)), .int v1, .int v2]) ++ List.replicate (4 - (lg_sl ([.ref ((u 7)), .int v1, .int v2])).length) Slot.unset).toArray = ls at hl ⊢
  have hl : lv_has ls 4 [(0, .ref ((u 7))), (1, .int v1), (2, .int v2)] := hl
  rw [m_Reader_readToken] at hm
  refine lv_aload_n hx hb d_Reader_readToken_0 rfl (lv_at hl 0 rfl) ?_
  refine lv_dup hx hb d_Reader_readToken_1 rfl ?_
  refine va_get (D := (dC, dI)) (ci := 7) (v := .int (i 30)) (C := R_Reader) (T := F_Reader) (N := 19) hx hb htt iw_Reader hown hK hP 7 xo_7 rfl 11 (Nat.le_of_ble_eq_true rfl) (htt _ lk_Reader_81) (fun _ h9 => h9) xg_7_11 d_Reader_readToken_2 ?_
  refine lv_iconst (v := 1) hx hb d_Reader_readToken_5 (by decide) ?_
  refine lv_iadd hx hb d_Reader_readToken_6 ?_
  refine lv_topi (fun x_1 ex_1 => ?_)
  replace hm := ob1_at ex_1 hm
  refine va_put (D := (dC, dI)) (ci := 7) (v := .int x_1) (ty := .int) (C := R_Reader) (T := F_Reader) (N := 19) hx hb htt iw_Reader t_Reader t_Reader_ok n_Reader hown hK hP hD hS 7 xo_7 rfl 11 (Nat.le_of_ble_eq_true rfl) (htt _ lk_Reader_81) (fun _ h9 => h9) rfl (by decide +kernel) rfl rfl xl_7_11 d_Reader_readToken_7 (fun H locs hP hD hS => ?_)
  obtain ⟨i_2, ei_2⟩ : ∃ y9 : Nat → Int32, y9 = upd i 30 x_1 := ⟨_, rfl⟩
  replace hm := ob1_at ei_2 hm
  obtain ⟨hP, hD⟩ := xw_30 ei_2 hP hD
  refine lv_aload_n hx hb d_Reader_readToken_10 rfl (lv_at hl 0 rfl) ?_
  refine va_get (D := (dC, dI)) (ci := 7) (v := .ref ((u 41))) (C := R_Reader) (T := F_Reader) (N := 19) hx hb htt iw_Reader hown hK hP 7 xo_7 rfl 2 (Nat.le_of_ble_eq_true rfl) (htt _ lk_Reader_11) (fun _ h9 => h9) xg_7_2 d_Reader_readToken_11 ?_
  refine lv_iload_n hx hb d_Reader_readToken_14 rfl (lv_at hl 1 rfl) ?_
  obtain ⟨h_3, hm⟩ := ck_some hm
  refine va_iald hx hb hK hP 43 0 twA_31 rfl h_3 d_Reader_readToken_15 ?_
  refine lv_bipush (v := 91) hx hb d_Reader_readToken_16 (by decide) ?_
  refine lv_icmp_ne (tgt := 29) hx hb d_Reader_readToken_18 (by decide) (fun c_4 => ?_) (fun c_4 => ?_)
  · replace hm := if_f c_4 hm
    refine lv_aload_n hx hb d_Reader_readToken_29 rfl (lv_at hl 0 rfl) ?_
    refine va_get (D := (dC, dI)) (ci := 7) (v := .ref ((u 41))) (C := R_Reader) (T := F_Reader) (N := 19) hx hb htt iw_Reader hown hK hP 7 xo_7 rfl 2 (Nat.le_of_ble_eq_true rfl) (htt _ lk_Reader_11) (fun _ h9 => h9) xg_7_2 d_Reader_readToken_30 ?_
    refine lv_iload_n hx hb d_Reader_readToken_33 rfl (lv_at hl 1 rfl) ?_
    obtain ⟨h_5, hm⟩ := ck_some hm
    refine va_iald hx hb hK hP 43 0 twA_31 rfl h_5 d_Reader_readToken_34 ?_
    refine lv_bipush (v := 93) hx hb d_Reader_readToken_35 (by decide) ?_
    refine lv_icmp_ne (tgt := 48) hx hb d_Reader_readToken_37 (by decide) (fun c_6 => ?_) (fun c_6 => ?_)
    · replace hm := if_f c_6 hm
      refine lv_aload_n hx hb d_Reader_readToken_48 rfl (lv_at hl 0 rfl) ?_
      refine lv_iload_n hx hb d_Reader_readToken_49 rfl (lv_at hl 1 rfl) ?_
      refine lv_iload_n hx hb d_Reader_readToken_50 rfl (lv_at hl 2 rfl) ?_
      obtain ⟨i_8, a_9, g_10, k_11, r_12, k_13, h_7, hm, e7, e8⟩ := obG_some hm
      have hFc := x_free hD hS hA
      refine xg_calli (va_runV (As := [.int v1, .int v2]) (rest := []) ⟨hx, hb, hml, hown, hts⟩ (x_Reader_readPlain l dC dI cI adK adV adA u o g H.size n h_7) (cwV 2 hts (tw_GV tw_cons cw_Reader_readPlain lk_Reader_113 in_Reader_readPlain sel_Reader_readPlain ini_Reader) rfl rfl rfl ⟨rfl, hd_Reader_readPlain⟩ ⟨Nat.le_of_ble_eq_true rfl, Nat.le_of_ble_eq_true rfl⟩) (xpV hK hP hD hS hE hFc xo_7 rfl) rfl rfl hl.1 rfl (lv_room (Nat.le_of_ble_eq_true rfl)) d_Reader_readToken_51 ⟨show 0 + k_11.1 ≤ mc by omega, show 0 + k_11.2 ≤ ms by omega⟩) hS (fun q _ h => hFc q h) hFc (fun kc_15 ks_16 r9 o_14 t9 H locs ekc eks ht hvm e9 hB hz1 hk1 hS => ?_)
      replace hkc : kc_15 + k_13.1 = mc := by omega
      replace hks : ks_16 + k_13.2 = ms := by omega
      clear e7 e8
      clear ekc eks
      have e9 : r_12 = r9 := e9
      subst e9
      obtain ⟨hP, hD⟩ := x_aftg hB ht hFc
      clear hFc hk1 hz1 hvm hB ht
      refine lv_istore_n (lv' := [(3, .int r_12), (0, .ref ((u 7))), (1, .int v1), (2, .int v2)]) hx hb d_Reader_readToken_54 rfl hl (by decide) rfl (fun ls hl => ?_)
      refine lv_aload_n hx hb d_Reader_readToken_55 rfl (lv_at hl 1 rfl) ?_
      refine va_get (D := (dC, dI)) (ci := 7) (v := .int (i_8 26)) (C := R_Reader) (T := F_Reader) (N := 19) hx hb htt iw_Reader hown hK hP 7 xo_7 rfl 5 (Nat.le_of_ble_eq_true rfl) (htt _ lk_Reader_51) (fun _ h9 => h9) xg_7_5 d_Reader_readToken_56 ?_
      refine lv_if_ne (tgt := 68) hx hb d_Reader_readToken_59 (by decide) (fun c_17 => ?_) (fun c_17 => ?_)
      · replace hm := if_f c_17 hm
        obtain ⟨e1, e2, e4, e5, e6, e3⟩ := re5 hm
        obtain ⟨hP, hD⟩ := x_eqg e1 e2 e4 hP hD
        refine W.widen (k := mc) (n := ms) (show kc_15 ≤ mc by omega) (show ks_16 ≤ ms by omega) ?_
        exact W.vret hx hb hr (fun t9 ht hW => ⟨⟨o_14, rfl, trivial, by rw [ht]; exact hP, hD⟩, hS.F ht⟩) hS.2.2 d_Reader_readToken_68
      · replace hm := if_t c_17 hm
        refine lv_aload_n hx hb d_Reader_readToken_62 rfl (lv_at hl 1 rfl) ?_
        refine lv_iload_n hx hb d_Reader_readToken_63 rfl (lv_at hl 0 rfl) ?_
        refine lv_iload_n hx hb d_Reader_readToken_64 rfl (lv_at hl 2 rfl) ?_
        obtain ⟨i_19, a_20, g_21, k_22, r_23, k_24, h_18, hm, e7, e8⟩ := obG_some hm
        have hFc := x_free hD hS hA
        refine xg_callv (va_runV (As := [.int r_12, .int v1]) (rest := []) ⟨hx, hb, hml, hown, hts⟩ (x_Reader_takePlain l dC dI cI adK adV adA u o_14 g_10 H.size n h_18) (cwV 2 hts (tw_GV tw_cons cw_Reader_takePlain lk_Reader_117 in_Reader_takePlain sel_Reader_takePlain ini_Reader) rfl rfl rfl ⟨rfl, hd_Reader_takePlain⟩ ⟨Nat.le_of_ble_eq_true rfl, Nat.le_of_ble_eq_true rfl⟩) (xpV hK hP hD hS hE hFc xo_7 rfl) rfl rfl hl.1 rfl (lv_room (Nat.le_of_ble_eq_true rfl)) d_Reader_readToken_65 ⟨show kc_15 + k_22.1 ≤ mc by omega, show ks_16 + k_22.2 ≤ ms by omega⟩) hS (fun q _ h => hFc q h) hFc (fun kc_26 ks_27 o_25 t9 H locs ekc eks ht hvm e9 hB hz1 hk1 hS => ?_)
        replace hkc : kc_26 + k_24.1 = mc := by omega
        replace hks : ks_27 + k_24.2 = ms := by omega
        clear e7 e8
        clear ekc eks
        obtain ⟨hP, hD⟩ := x_aftg hB ht hFc
        clear hFc hk1 hz1 hvm hB ht
        obtain ⟨e1, e2, e4, e5, e6, e3⟩ := re5 hm
        obtain ⟨hP, hD⟩ := x_eqg e1 e2 e4 hP hD
        refine W.widen (k := mc) (n := ms) (show kc_26 ≤ mc by omega) (show ks_27 ≤ ms by omega) ?_
        exact W.vret hx hb hr (fun t9 ht hW => ⟨⟨o_25, rfl, trivial, by rw [ht]; exact hP, hD⟩, hS.F ht⟩) hS.2.2 d_Reader_readToken_68
    · replace hm := if_t c_6 hm
      refine lv_aload_n hx hb d_Reader_readToken_40 rfl (lv_at hl 0 rfl) ?_
      refine lv_iload_n hx hb d_Reader_readToken_41 rfl (lv_at hl 1 rfl) ?_
      obtain ⟨i_29, a_30, g_31, k_32, r_33, k_34, h_28, hm, e7, e8⟩ := obG_some hm
      have hFc := x_free hD hS hA
      refine xg_callv (va_runV (As := [.int v1]) (rest := []) ⟨hx, hb, hml, hown, hts⟩ (x_Reader_closeList l dC dI cI adK adV adA u o g H.size n h_28) (cwV 1 hts (tw_GV tw_cons cw_Reader_closeList lk_Reader_110 in_Reader_closeList sel_Reader_closeList ini_Reader) rfl rfl rfl ⟨rfl, hd_Reader_closeList⟩ ⟨Nat.le_of_ble_eq_true rfl, Nat.le_of_ble_eq_true rfl⟩) (xpV hK hP hD hS hE hFc xo_7 rfl) rfl rfl hl.1 rfl (lv_room (Nat.le_of_ble_eq_true rfl)) d_Reader_readToken_42 ⟨show 0 + k_32.1 ≤ mc by omega, show 0 + k_32.2 ≤ ms by omega⟩) hS (fun q _ h => hFc q h) hFc (fun kc_36 ks_37 o_35 t9 H locs ekc eks ht hvm e9 hB hz1 hk1 hS => ?_)
      replace hkc : kc_36 + k_34.1 = mc := by omega
      replace hks : ks_37 + k_34.2 = ms := by omega
      clear e7 e8
      clear ekc eks
      obtain ⟨hP, hD⟩ := x_aftg hB ht hFc
      clear hFc hk1 hz1 hvm hB ht
      refine lv_goto (tgt := 68) hx hb d_Reader_readToken_45 (by decide) ?_
      obtain ⟨e1, e2, e4, e5, e6, e3⟩ := re5 hm
      obtain ⟨hP, hD⟩ := x_eqg e1 e2 e4 hP hD
      refine W.widen (k := mc) (n := ms) (show kc_36 ≤ mc by omega) (show ks_37 ≤ ms by omega) ?_
      exact W.vret hx hb hr (fun t9 ht hW => ⟨⟨o_35, rfl, trivial, by rw [ht]; exact hP, hD⟩, hS.F ht⟩) hS.2.2 d_Reader_readToken_68
  · replace hm := if_t c_4 hm
    refine lv_aload_n hx hb d_Reader_readToken_21 rfl (lv_at hl 0 rfl) ?_
    refine lv_iload_n hx hb d_Reader_readToken_22 rfl (lv_at hl 1 rfl) ?_
    obtain ⟨i_39, a_40, g_41, k_42, r_43, k_44, h_38, hm, e7, e8⟩ := obG_some hm
    have hFc := x_free hD hS hA
    refine xg_callv (va_runV (As := [.int v1]) (rest := []) ⟨hx, hb, hml, hown, hts⟩ (x_Reader_openList l dC dI cI adK adV adA u o g H.size n h_38) (cwV 1 hts (tw_GV tw_cons cw_Reader_openList lk_Reader_106 in_Reader_openList sel_Reader_openList ini_Reader) rfl rfl rfl ⟨rfl, hd_Reader_openList⟩ ⟨Nat.le_of_ble_eq_true rfl, Nat.le_of_ble_eq_true rfl⟩) (xpV hK hP hD hS hE hFc xo_7 rfl) rfl rfl hl.1 rfl (lv_room (Nat.le_of_ble_eq_true rfl)) d_Reader_readToken_23 ⟨show 0 + k_42.1 ≤ mc by omega, show 0 + k_42.2 ≤ ms by omega⟩) hS (fun q _ h => hFc q h) hFc (fun kc_46 ks_47 o_45 t9 H locs ekc eks ht hvm e9 hB hz1 hk1 hS => ?_)
    replace hkc : kc_46 + k_44.1 = mc := by omega
    replace hks : ks_47 + k_44.2 = ms := by omega
    clear e7 e8
    clear ekc eks
    obtain ⟨hP, hD⟩ := x_aftg hB ht hFc
    clear hFc hk1 hz1 hvm hB ht
    refine lv_goto (tgt := 68) hx hb d_Reader_readToken_26 (by decide) ?_
    obtain ⟨e1, e2, e4, e5, e6, e3⟩ := re5 hm
    obtain ⟨hP, hD⟩ := x_eqg e1 e2 e4 hP hD
    refine W.widen (k := mc) (n := ms) (show kc_46 ≤ mc by omega) (show ks_47 ≤ ms by omega) ?_
    exact W.vret hx hb hr (fun t9 ht hW => ⟨⟨o_45, rfl, trivial, by rw [ht]; exact hP, hD⟩, hS.F ht⟩) hS.2.2 d_Reader_readToken_68

def m_Heap_endCollecting_b53 (n : Nat) (i : Nat → Int32) (a : Nat → Nat → Int32) (g : Nat → Nat)  : Option ((Nat → Int32) × (Nat → Nat → Int32) × (Nat → Nat) × (Nat × Nat) × Int32) := ob1 (sw a : Nat → Nat → Int32) (fun a_1 => ob1 (sw g : Nat → Nat) (fun g_2 => ob1 (i 9 : Int32) (fun x_4 => ob1 (upd i 8 x_4 : Nat → Int32) (fun i_5 => some (i_5, a_1, g_2, (0, 0), (0 : Int32))))))
set_option maxHeartbeats 4000000 in
set_option maxRecDepth 100000 in
theorem lb_Heap_endCollecting_53 (l : Launch) (dC : Nat → ClassId) (dI : Nat → Nat → Nat) (cI : ClassId) (adK adV adA u : Nat → Nat) (n : Nat) {p : Program} {e : Env} {s : State} {m : MethodId} {args : Array Value} {below : List Frame} {meth : Method} {c : Code} {A : Nat → Prop} (hx : p.tables.exec = Jvm.exec) (hb : c.code = b_Heap_endCollecting) (hml : c.maxLocals = 3) (hown : s.vm.findClass R_Heap = some m.cls) (hts : ∀ w ∈ w_Heap_endCollecting, w.before args s = true) (hK : va_K (dC, dI) classes [(cI, .int)] s) (hE : tw_E adK adV adA A s s.heap) (hA : ∀ q : Nat, s.heap.size ≤ q → A q) (hr : meth.sig.returnType = none) (hlocks : meth.locks = false) {mc ms : Nat} {i2 : Nat → Int32} {a2 : Nat → Nat → Int32} {g2 : Nat → Nat} {r2 : Int32} (i : Nat → Int32) (a : Nat → Nat → Int32) (g : Nat → Nat)  (k2 : Nat × Nat) (hm : m_Heap_endCollecting_b53 n i a g = some (i2, a2, g2, k2, r2)) : ∀ (o : Nat → Nat) (kc ks : Nat), kc + k2.1 = mc → ks + k2.2 = ms → ∀ (H : Heap) (locs : List Loc) (ls : Array Slot), va_P (dC, dI) classes (TW cI u o i a g) H → va_D A (TW cI u o i a g) → va_S A s.heap H locs → lv_has ls 3 [(0, .ref ((u 1)))] → W p l e ({ frames := 6, cells := mc, slots := ms, locals := 154 } : Room) s m args below meth c H locs kc ks (MQ below (va_Qv xVg (xBg dC dI cI u g2 i2 a2 A) A) args s mc ms A) (F0 m 53 ls []) := by
  have htt : ∀ w ∈ tw_T, w.before _ s = true := fun w h => hts w (List.mem_cons_of_mem _ h)
  intro o kc ks hkc hks H locs ls hP hD hS hl
  rw [m_Heap_endCollecting_b53] at hm
  refine lv_aload_n hx hb d_Heap_endCollecting_53 rfl (lv_at hl 0 rfl) ?_
  refine va_get (D := (dC, dI)) (ci := 1) (v := .ref ((o 0))) (C := R_Heap) (T := F_Heap) (N := 12) hx hb htt iw_Heap hown hK hP 1 xo_1 rfl 5 (Nat.le_of_ble_eq_true rfl) (htt _ lk_Heap_11) (fun _ h9 => h9) xg_1_5 d_Heap_endCollecting_54 ?_
  refine lv_astore_n (lv' := [(2, .ref ((o 0))), (0, .ref ((u 1)))]) hx hb d_Heap_endCollecting_57 rfl hl (by decide) rfl (fun ls hl => ?_)
  refine lv_aload_n hx hb d_Heap_endCollecting_58 rfl (lv_at hl 1 rfl) ?_
  refine lv_aload_n hx hb d_Heap_endCollecting_59 rfl (lv_at hl 1 rfl) ?_
  refine va_get (D := (dC, dI)) (ci := 1) (v := .ref ((o 1))) (C := R_Heap) (T := F_Heap) (N := 12) hx hb htt iw_Heap hown hK hP 1 xo_1 rfl 6 (Nat.le_of_ble_eq_true rfl) (htt _ lk_Heap_15) (fun _ h9 => h9) xg_1_6 d_Heap_endCollecting_60 ?_
  refine va_put (D := (dC, dI)) (ci := 1) (v := .ref ((o 1))) (ty := .array .int) (C := R_Heap) (T := F_Heap) (N := 12) hx hb htt iw_Heap t_Heap t_Heap_ok n_Heap hown hK hP hD hS 1 xo_1 rfl 5 (Nat.le_of_ble_eq_true rfl) (htt _ lk_Heap_11) (fun _ h9 => h9) rfl (by decide +kernel) rfl rfl (show _ < (xf_1 _ _ _).length from Nat.le_of_ble_eq_true rfl) d_Heap_endCollecting_63 (fun H locs hP hD hS => ?_)
  refine lv_aload_n hx hb d_Heap_endCollecting_66 rfl (lv_at hl 1 rfl) ?_
  refine lv_aload_n hx hb d_Heap_endCollecting_67 rfl (lv_at hl 0 rfl) ?_
  refine va_put (D := (dC, dI)) (ci := 1) (v := .ref ((o 0))) (ty := .array .int) (C := R_Heap) (T := F_Heap) (N := 12) hx hb htt iw_Heap t_Heap t_Heap_ok n_Heap hown hK hP hD hS 1 rfl rfl 6 (Nat.le_of_ble_eq_true rfl) (htt _ lk_Heap_15) (fun _ h9 => h9) rfl (by decide +kernel) rfl rfl (Nat.le_of_ble_eq_true rfl) d_Heap_endCollecting_68 (fun H locs hP hD hS => ?_)
  obtain ⟨a_1, ea_1⟩ : ∃ y9 : Nat → Nat → Int32, y9 = sw a := ⟨_, rfl⟩
  replace hm := ob1_at ea_1 hm
  obtain ⟨g_2, eg_2⟩ : ∃ y9 : Nat → Nat, y9 = sw g := ⟨_, rfl⟩
  replace hm := ob1_at eg_2 hm
  replace hP := hP.sub (ws' := TW cI u (sw o) i (sw a) (sw g)) [0, 1, 2, 3, 4, 5, 6, 7, 8, 9, 10, 11, 13, 12, 14, 15, 16, 17, 18, 19, 20, 21, 22, 23, 24, 25, 26, 27, 28, 29, 30, 31, 32, 33, 34, 35, 36, 37, 38, 39, 40, 41, 42, 43, 44, 45, 46, 47, 48, 49, 50, 51, 52, 53, 54, 55, 56, 57, 58, 59, 60, 61, 62, 63, 64, 65, 66] rfl
  replace hD := hD.sub (ws' := TW cI u (sw o) i (sw a) (sw g)) [0, 1, 2, 3, 4, 5, 6, 7, 8, 9, 10, 11, 13, 12, 14, 15, 16, 17, 18, 19, 20, 21, 22, 23, 24, 25, 26, 27, 28, 29, 30, 31, 32, 33, 34, 35, 36, 37, 38, 39, 40, 41, 42, 43, 44, 45, 46, 47, 48, 49, 50, 51, 52, 53, 54, 55, 56, 57, 58, 59, 60, 61, 62, 63, 64, 65, 66] (by decide) rfl
  rw [← ea_1, ← eg_2] at hP hD
  generalize sw o = o_3 at hP hD
  refine lv_aload_n hx hb d_Heap_endCollecting_71 rfl (lv_at hl 1 rfl) ?_
  refine lv_aload_n hx hb d_Heap_endCollecting_72 rfl (lv_at hl 1 rfl) ?_
  refine va_get (D := (dC, dI)) (ci := 1) (v := .int (i 9)) (C := R_Heap) (T := F_Heap) (N := 12) hx hb htt iw_Heap hown hK hP 1 xo_1 rfl 8 (Nat.le_of_ble_eq_true rfl) (htt _ lk_Heap_153) (fun _ h9 => h9) xg_1_8 d_Heap_endCollecting_73 ?_
  refine lv_topi (fun x_4 ex_4 => ?_)
  replace hm := ob1_at ex_4 hm
  refine va_put (D := (dC, dI)) (ci := 1) (v := .int x_4) (ty := .int) (C := R_Heap) (T := F_Heap) (N := 12) hx hb htt iw_Heap t_Heap t_Heap_ok n_Heap hown hK hP hD hS 1 xo_1 rfl 7 (Nat.le_of_ble_eq_true rfl) (htt _ lk_Heap_18) (fun _ h9 => h9) rfl (by decide +kernel) rfl rfl xl_1_7 d_Heap_endCollecting_76 (fun H locs hP hD hS => ?_)
  obtain ⟨i_5, ei_5⟩ : ∃ y9 : Nat → Int32, y9 = upd i 8 x_4 := ⟨_, rfl⟩
  replace hm := ob1_at ei_5 hm
  obtain ⟨hP, hD⟩ := xw_8 ei_5 hP hD
  obtain ⟨e1, e2, e4, e5, e6, e3⟩ := re5 hm
  obtain ⟨hP, hD⟩ := x_eqg e1 e2 e4 hP hD
  refine W.widen (k := mc) (n := ms) (show kc ≤ mc by omega) (show ks ≤ ms by omega) ?_
  exact W.vret hx hb hr (fun t9 ht hW => ⟨⟨o_3, rfl, trivial, by rw [ht]; exact hP, hD⟩, hS.F ht⟩) hS.2.2 d_Heap_endCollecting_79
def m_Heap_endCollecting_b46 (n : Nat) (rc_7 : (Nat → Int32) → (Nat → Nat → Int32) → (Nat → Nat) → Int32 → Int32 → Option ((Nat → Int32) × (Nat → Nat → Int32) × (Nat → Nat) × (Nat × Nat) × Int32)) (i : Nat → Int32) (a : Nat → Nat → Int32) (g : Nat → Nat) (v2 : Int32) (s0 : Int32) : Option ((Nat → Int32) × (Nat → Nat → Int32) × (Nat → Nat) × (Nat × Nat) × Int32) := ob1 (v2 + 1 : Int32) (fun x_1 => rc_7 i a g s0 x_1)
set_option maxHeartbeats 4000000 in
set_option maxRecDepth 100000 in
theorem lb_Heap_endCollecting_46 (l : Launch) (dC : Nat → ClassId) (dI : Nat → Nat → Nat) (cI : ClassId) (adK adV adA u : Nat → Nat) (n : Nat) {p : Program} {e : Env} {s : State} {m : MethodId} {args : Array Value} {below : List Frame} {meth : Method} {c : Code} {A : Nat → Prop} (hx : p.tables.exec = Jvm.exec) (hb : c.code = b_Heap_endCollecting) (hml : c.maxLocals = 3) (hown : s.vm.findClass R_Heap = some m.cls) (hts : ∀ w ∈ w_Heap_endCollecting, w.before args s = true) (hK : va_K (dC, dI) classes [(cI, .int)] s) (hE : tw_E adK adV adA A s s.heap) (hA : ∀ q : Nat, s.heap.size ≤ q → A q) (hr : meth.sig.returnType = none) (hlocks : meth.locks = false) {mc ms : Nat} {i2 : Nat → Int32} {a2 : Nat → Nat → Int32} {g2 : Nat → Nat} {r2 : Int32} (rc_7 : (Nat → Int32) → (Nat → Nat → Int32) → (Nat → Nat) → Int32 → Int32 → Option ((Nat → Int32) × (Nat → Nat → Int32) × (Nat → Nat) × (Nat × Nat) × Int32)) (Hrc_7 : ∀ (i : Nat → Int32) (a : Nat → Nat → Int32) (g : Nat → Nat) (v1 : Int32) (v2 : Int32) (k2 : Nat × Nat), rc_7 i a g v1 v2 = some (i2, a2, g2, k2, r2) → ∀ (o : Nat → Nat) (kc ks : Nat), kc + k2.1 = mc → ks + k2.2 = ms → ∀ (H : Heap) (locs : List Loc) (ls : Array Slot), va_P (dC, dI) classes (TW cI u o i a g) H → va_D A (TW cI u o i a g) → va_S A s.heap H locs → lv_has ls 3 [(0, .ref ((u 1))), (1, .int v1), (2, .int v2)] → W p l e ({ frames := 6, cells := mc, slots := ms, locals := 154 } : Room) s m args below meth c H locs kc ks (MQ below (va_Qv xVg (xBg dC dI cI u g2 i2 a2 A) A) args s mc ms A) (F0 m 7 ls [])) (i : Nat → Int32) (a : Nat → Nat → Int32) (g : Nat → Nat) (v2 : Int32) (s0 : Int32) (k2 : Nat × Nat) (hm : m_Heap_endCollecting_b46 n rc_7 i a g v2 s0 = some (i2, a2, g2, k2, r2)) : ∀ (o : Nat → Nat) (kc ks : Nat), kc + k2.1 = mc → ks + k2.2 = ms → ∀ (H : Heap) (locs : List Loc) (ls : Array Slot), va_P (dC, dI) classes (TW cI u o i a g) H → va_D A (TW cI u o i a g) → va_S A s.heap H locs → lv_has ls 3 [(0, .ref ((u 1))), (2, .int v2)] → W p l e ({ frames := 6, cells := mc, slots := ms, locals := 154 } : Room) s m args below meth c H locs kc ks (MQ below (va_Qv xVg (xBg dC dI cI u g2 i2 a2 A) A) args s mc ms A) (F0 m 46 ls [.int s0]) := by
  have htt : ∀ w ∈ tw_T, w.before _ s = true := fun w h => hts w (List.mem_cons_of_mem _ h)
  intro o kc ks hkc hks H locs ls hP hD hS hl
  rw [m_Heap_endCollecting_b46] at hm
  refine lv_istore_n (lv' := [(1, .int s0), (0, .ref ((u 1))), (2, .int v2)]) hx hb d_Heap_endCollecting_46 rfl hl (by decide) rfl (fun ls hl => ?_)
  obtain ⟨x_1, ex_1⟩ : ∃ y9 : Int32, y9 = v2 + 1 := ⟨_, rfl⟩
  replace hm := ob1_at ex_1 hm
  refine lv_iinc (v := x_1) (lv' := [(2, .int x_1), (1, .int s0), (0, .ref ((u 1)))]) hx hb d_Heap_endCollecting_47 hl (k := 2) rfl (by rw [ex_1]; rfl) (by decide) rfl (fun ls hl => ?_)
  refine lv_goto (tgt := 7) hx hb d_Heap_endCollecting_50 (by decide) ?_
  exact Hrc_7 _ _ _ _ _ _ hm o kc ks hkc hks _ _ _ hP hD hS (lv_sub hl [2, 1, 0] rfl)
def m_Heap_endCollecting_b7 (n : Nat) : Nat → (Nat → Int32) → (Nat → Nat → Int32) → (Nat → Nat) → Int32 → Int32 → Option ((Nat → Int32) × (Nat → Nat → Int32) × (Nat → Nat) × (Nat × Nat) × Int32)
  | 0, _, _, _, _, _ => none
  | f + 1, i, a, g, v1, v2 => if ((1000000 : Int32)) ≤ v2 then m_Heap_endCollecting_b53 n i a g else if ((i 9)) ≤ v1 then m_Heap_endCollecting_b53 n i a g else ck v1 (g 1) (if (((a 1 v1.toNatClampNeg) &&& 1073741824)) = ((0 : Int32)) then ob0 (m_Heap_behindWord n g i a v1) (fun r_6 => m_Heap_endCollecting_b46 n (m_Heap_endCollecting_b7 n f) i a g v2 r_6) else obG (m_Heap_moveMembers n g i a v1) (fun i_10 a_11 g_12 r_14 => m_Heap_endCollecting_b46 n (m_Heap_endCollecting_b7 n f) i_10 a_11 g_12 v2 r_14))
set_option maxHeartbeats 4000000 in
set_option maxRecDepth 100000 in
theorem lb_Heap_endCollecting_7 (l : Launch) (dC : Nat → ClassId) (dI : Nat → Nat → Nat) (cI : ClassId) (adK adV adA u : Nat → Nat) (n : Nat) {p : Program} {e : Env} {s : State} {m : MethodId} {args : Array Value} {below : List Frame} {meth : Method} {c : Code} {A : Nat → Prop} (hx : p.tables.exec = Jvm.exec) (hb : c.code = b_Heap_endCollecting) (hml : c.maxLocals = 3) (hown : s.vm.findClass R_Heap = some m.cls) (hts : ∀ w ∈ w_Heap_endCollecting, w.before args s = true) (hK : va_K (dC, dI) classes [(cI, .int)] s) (hE : tw_E adK adV adA A s s.heap) (hA : ∀ q : Nat, s.heap.size ≤ q → A q) (hr : meth.sig.returnType = none) (hlocks : meth.locks = false) {mc ms : Nat} {i2 : Nat → Int32} {a2 : Nat → Nat → Int32} {g2 : Nat → Nat} {r2 : Int32} : ∀ (f : Nat) (i : Nat → Int32) (a : Nat → Nat → Int32) (g : Nat → Nat) (v1 : Int32) (v2 : Int32) (k2 : Nat × Nat), m_Heap_endCollecting_b7 n f i a g v1 v2 = some (i2, a2, g2, k2, r2) → ∀ (o : Nat → Nat) (kc ks : Nat), kc + k2.1 = mc → ks + k2.2 = ms → ∀ (H : Heap) (locs : List Loc) (ls : Array Slot), va_P (dC, dI) classes (TW cI u o i a g) H → va_D A (TW cI u o i a g) → va_S A s.heap H locs → lv_has ls 3 [(0, .ref ((u 1))), (1, .int v1), (2, .int v2)] → W p l e ({ frames := 6, cells := mc, slots := ms, locals := 154 } : Room) s m args below meth c H locs kc ks (MQ below (va_Qv xVg (xBg dC dI cI u g2 i2 a2 A) A) args s mc ms A) (F0 m 7 ls []) := by
  have htt : ∀ w ∈ tw_T, w.before _ s = true := fun w h => hts w (List.mem_cons_of_mem _ h)
  intro f
  induction f with
  | zero =>
    intro i a g v1 v2 k2 hm
    rw [m_Heap_endCollecting_b7] at hm
    cases hm
  | succ f ih =>
    intro i a g v1 v2 k2 hm o kc ks hkc hks H locs ls hP hD hS hl
    rw [m_Heap_endCollecting_b7] at hm
    refine lv_iload_n hx hb d_Heap_endCollecting_7 rfl (lv_at hl 2 rfl) ?_
    refine lv_ldc (v := 1000000) hx hb hown (htt _ lk_Heap_149) d_Heap_endCollecting_8 ?_
    refine lv_icmp_ge (tgt := 53) hx hb d_Heap_endCollecting_10 (by decide) (fun c_1 => ?_) (fun c_1 => ?_)
    · replace hm := if_t c_1 hm
      exact lb_Heap_endCollecting_53 l dC dI cI adK adV adA u n hx hb hml hown hts hK hE hA hr hlocks _ _ _ _ hm o kc ks hkc hks _ _ _ hP hD hS (lv_sub hl [0] rfl)
    · replace hm := if_f c_1 hm
      refine lv_iload_n hx hb d_Heap_endCollecting_13 rfl (lv_at hl 1 rfl) ?_
      refine lv_aload_n hx hb d_Heap_endCollecting_14 rfl (lv_at hl 0 rfl) ?_
      refine va_get (D := (dC, dI)) (ci := 1) (v := .int (i 9)) (C := R_Heap) (T := F_Heap) (N := 12) hx hb htt iw_Heap hown hK hP 1 xo_1 rfl 8 (Nat.le_of_ble_eq_true rfl) (htt _ lk_Heap_153) (fun _ h9 => h9) xg_1_8 d_Heap_endCollecting_15 ?_
      refine lv_icmp_ge (tgt := 53) hx hb d_Heap_endCollecting_18 (by decide) (fun c_2 => ?_) (fun c_2 => ?_)
      · replace hm := if_t c_2 hm
        exact lb_Heap_endCollecting_53 l dC dI cI adK adV adA u n hx hb hml hown hts hK hE hA hr hlocks _ _ _ _ hm o kc ks hkc hks _ _ _ hP hD hS (lv_sub hl [0] rfl)
      · replace hm := if_f c_2 hm
        refine lv_aload_n hx hb d_Heap_endCollecting_21 rfl (lv_at hl 0 rfl) ?_
        refine va_get (D := (dC, dI)) (ci := 1) (v := .ref ((o 1))) (C := R_Heap) (T := F_Heap) (N := 12) hx hb htt iw_Heap hown hK hP 1 xo_1 rfl 6 (Nat.le_of_ble_eq_true rfl) (htt _ lk_Heap_15) (fun _ h9 => h9) xg_1_6 d_Heap_endCollecting_22 ?_
        refine lv_iload_n hx hb d_Heap_endCollecting_25 rfl (lv_at hl 1 rfl) ?_
        obtain ⟨h_3, hm⟩ := ck_some hm
        refine va_iald hx hb hK hP 13 0 twA_1 rfl h_3 d_Heap_endCollecting_26 ?_
        refine lv_ldc (v := 1073741824) hx hb hown (htt _ lk_Heap_118) d_Heap_endCollecting_27 ?_
        refine lv_iand hx hb d_Heap_endCollecting_29 ?_
        refine lv_if_eq (tgt := 41) hx hb d_Heap_endCollecting_30 (by decide) (fun c_4 => ?_) (fun c_4 => ?_)
        · replace hm := if_t c_4 hm
          refine lv_aload_n hx hb d_Heap_endCollecting_41 rfl (lv_at hl 0 rfl) ?_
          refine lv_iload_n hx hb d_Heap_endCollecting_42 rfl (lv_at hl 1 rfl) ?_
          obtain ⟨r_6, h_5, hm⟩ := ob0_some hm
          have hFc := x_free0 hS hA
          refine xg_calli (va_runV (As := [.int v1]) (rest := []) ⟨hx, hb, hml, hown, hts⟩ (x_Heap_behindWord l dC dI cI adK adV adA u o g H.size n h_5) (cwV 1 hts (tw_GV tw_cons cw_Heap_behindWord lk_Heap_171 in_Heap_behindWord sel_Heap_behindWord ini_Heap) rfl rfl rfl ⟨rfl, hd_Heap_behindWord⟩ ⟨Nat.le_of_ble_eq_true rfl, Nat.le_of_ble_eq_true rfl⟩) (xpVr hK hP hS hE hFc xo_1 rfl) rfl rfl hl.1 rfl (lv_room (Nat.le_of_ble_eq_true rfl)) d_Heap_endCollecting_43 ⟨show kc + 0 ≤ mc by omega, show ks + 0 ≤ ms by omega⟩) hS (fun q _ h => hFc q h) hFc (fun kc_7 ks_8 r9 u9 t9 H locs ekc eks ht hvm e9 hB hz1 hk1 hS => ?_)
          replace hkc : kc_7 + k2.1 = mc := by omega
          replace hks : ks_8 + k2.2 = ms := by omega
          clear ekc eks
          have e9 : r_6 = r9 := e9
          subst e9
          replace hP := x_keep hP hk1
          clear hFc hk1 hz1 hvm hB ht
          exact lb_Heap_endCollecting_46 l dC dI cI adK adV adA u n hx hb hml hown hts hK hE hA hr hlocks (m_Heap_endCollecting_b7 n f) ih _ _ _ _ _ _ hm o kc_7 ks_8 hkc hks _ _ _ hP hD hS (lv_sub hl [0, 2] rfl)
        · replace hm := if_f c_4 hm
          refine lv_aload_n hx hb d_Heap_endCollecting_33 rfl (lv_at hl 0 rfl) ?_
          refine lv_iload_n hx hb d_Heap_endCollecting_34 rfl (lv_at hl 1 rfl) ?_
          obtain ⟨i_10, a_11, g_12, k_13, r_14, k_15, h_9, hm, e7, e8⟩ := obG_some hm
          have hFc := x_free hD hS hA
          refine xg_calli (va_runV (As := [.int v1]) (rest := []) ⟨hx, hb, hml, hown, hts⟩ (x_Heap_moveMembers l dC dI cI adK adV adA u o g H.size n h_9) (cwV 1 hts (tw_GV tw_cons cw_Heap_moveMembers lk_Heap_168 in_Heap_moveMembers sel_Heap_moveMembers ini_Heap) rfl rfl rfl ⟨rfl, hd_Heap_moveMembers⟩ ⟨Nat.le_of_ble_eq_true rfl, Nat.le_of_ble_eq_true rfl⟩) (xpV hK hP hD hS hE hFc xo_1 rfl) rfl rfl hl.1 rfl (lv_room (Nat.le_of_ble_eq_true rfl)) d_Heap_endCollecting_35 ⟨show kc + k_13.1 ≤ mc by omega, show ks + k_13.2 ≤ ms by omega⟩) hS (fun q _ h => hFc q h) hFc (fun kc_17 ks_18 r9 o_16 t9 H locs ekc eks ht hvm e9 hB hz1 hk1 hS => ?_)
          replace hkc : kc_17 + k_15.1 = mc := by omega
          replace hks : ks_18 + k_15.2 = ms := by omega
          clear e7 e8
          clear ekc eks
          have e9 : r_14 = r9 := e9
          subst e9
          obtain ⟨hP, hD⟩ := x_aftg hB ht hFc
          clear hFc hk1 hz1 hvm hB ht
          refine lv_goto (tgt := 46) hx hb d_Heap_endCollecting_38 (by decide) ?_
          exact lb_Heap_endCollecting_46 l dC dI cI adK adV adA u n hx hb hml hown hts hK hE hA hr hlocks (m_Heap_endCollecting_b7 n f) ih _ _ _ _ _ _ hm o_16 kc_17 ks_18 hkc hks _ _ _ hP hD hS (lv_sub hl [0, 2] rfl)
def m_Heap_endCollecting (n : Nat) (g : Nat → Nat) (i : Nat → Int32) (a : Nat → Nat → Int32)  : Option ((Nat → Int32) × (Nat → Nat → Int32) × (Nat → Nat) × (Nat × Nat) × Int32) := ob1 (i 7 : Int32) (fun x_1 => m_Heap_endCollecting_b7 n n i a g x_1 (0 : Int32))
set_option maxHeartbeats 4000000 in
set_option maxRecDepth 100000 in
theorem x_Heap_endCollecting (l : Launch) (dC : Nat → ClassId) (dI : Nat → Nat → Nat) (cI : ClassId) (adK adV adA u o g : Nat → Nat) (sz : Nat) (n : Nat) {i : Nat → Int32} {a : Nat → Nat → Int32}  {i2 : Nat → Int32} {a2 : Nat → Nat → Int32} {g2 : Nat → Nat} {k2 : Nat × Nat} {r2 : Int32} (hm : m_Heap_endCollecting n g i a = some (i2, a2, g2, k2, r2)) : Met l y_Heap_endCollecting w_Heap_endCollecting ({ frames := 6, cells := k2.1, slots := k2.2, locals := 154 } : Room) (va_Pc [.ref ((u 1))] (xE dC dI cI adK adV adA u o g i a sz)) (va_Qv xVg (xBg dC dI cI u g2 i2 a2 (va_A (TW cI u o i a g) sz)) (va_A (TW cI u o i a g) sz)) k2.1 k2.2 ((va_A (TW cI u o i a g) sz)) := by
  refine Met.ofW (cc := b_Heap_endCollecting) (maxL := 3) (ret := none) (by decide) rfl ?_
  intro p e s m args below meth c s₁ B hml hv
  obtain ⟨rfl, hsz, hP, hK, hE, hD0⟩ := hv
  have hx := B.exec
  have hb := B.bytes
  have hr := B.returns
  have hts := atoms_spec (ws := w_Heap_endCollecting) B.pre
  have htt : ∀ w ∈ tw_T, w.before _ s = true := fun w h => hts w (List.mem_cons_of_mem _ h)
  have hown : s.vm.findClass R_Heap = some m.cls := findClass_of_methodNamed B.named
  have hlocks := B.notSynchronized
  subst hsz
  have hD := hD0.self (sz := s.heap.size)
  generalize hAe : (va_A (TW cI u o i a g) s.heap.size) = A at hD hE ⊢
  have hA : ∀ q : Nat, s.heap.size ≤ q → A q := fun q h => by rw [← hAe]; exact Or.inr h
  have hS : va_S A s.heap s.heap [] := va_S.rf
  obtain ⟨mc, ms, emc, ems⟩ : ∃ mc ms : Nat, k2.1 = mc ∧ k2.2 = ms := ⟨_, _, rfl, rfl⟩
  have hkc : 0 + k2.1 = mc := by rw [Nat.zero_add]; exact emc
  have hks : 0 + k2.2 = ms := by rw [Nat.zero_add]; exact ems
  rw [emc, ems]
  clear emc ems
  have hl := lv_entry ([.ref ((u 1))]) (n := 3) (Nat.le_of_ble_eq_true rfl)
  rw [lg_entry_eq]
  generalize (lg_sl ([.ref ((u 1))]) ++ List.replicate (3 - (lg_sl ([.ref ((u 1))])).length) Slot.unset).toArray = ls at hl ⊢
  have hl : lv_has ls 3 [(0, .ref ((u 1)))] := hl
  rw [m_Heap_endCollecting] at hm
  refine lv_aload_n hx hb d_Heap_endCollecting_0 rfl (lv_at hl 0 rfl) ?_
  refine va_get (D := (dC, dI)) (ci := 1) (v := .int (i 7)) (C := R_Heap) (T := F_Heap) (N := 12) hx hb htt iw_Heap hown hK hP 1 xo_1 rfl 4 (Nat.le_of_ble_eq_true rfl) (htt _ lk_Heap_54) (fun _ h9 => h9) xg_1_4 d_Heap_endCollecting_1 ?_
  refine lv_topi (fun x_1 ex_1 => ?_)
  replace hm := ob1_at ex_1 hm
  refine lv_istore_n (lv' := [(1, .int x_1), (0, .ref ((u 1)))]) hx hb d_Heap_endCollecting_4 rfl hl (by decide) rfl (fun ls hl => ?_)
  refine lv_iconst (v := 0) hx hb d_Heap_endCollecting_5 (by decide) ?_
  refine lv_istore_n (lv' := [(2, .int 0), (1, .int x_1), (0, .ref ((u 1)))]) hx hb d_Heap_endCollecting_6 rfl hl (by decide) rfl (fun ls hl => ?_)
  exact lb_Heap_endCollecting_7 l dC dI cI adK adV adA u n hx hb hml hown hts hK hE hA hr hlocks n _ _ _ _ _ _ hm o 0 0 hkc hks _ _ _ hP hD hS (lv_sub hl [2, 1, 0] rfl)

def m_Machine_advance_b72 (n : Nat) (i : Nat → Int32) (a : Nat → Nat → Int32) (g : Nat → Nat)  : Option ((Nat → Int32) × (Nat → Nat → Int32) × (Nat → Nat) × (Nat × Nat) × Int32) := if ((i 35)) = ((1 : Int32)) then if ((i 37)) < ((20000 : Int32)) then some (i, a, g, (0, 0), (0 : Int32)) else ob (m_Machine_finishLine n g i a (3 : Int32) (13 : Int32)) (fun i_4 a_5 r_6 => some (i_4, a_5, g, (0, 0), (0 : Int32))) else some (i, a, g, (0, 0), (0 : Int32))
set_option maxHeartbeats 4000000 in
set_option maxRecDepth 100000 in
theorem lb_Machine_advance_72 (l : Launch) (dC : Nat → ClassId) (dI : Nat → Nat → Nat) (cI : ClassId) (adK adV adA u : Nat → Nat) (n : Nat) {p : Program} {e : Env} {s : State} {m : MethodId} {args : Array Value} {below : List Frame} {meth : Method} {c : Code} {A : Nat → Prop} (hx : p.tables.exec = Jvm.exec) (hb : c.code = b_Machine_advance) (hml : c.maxLocals = 2) (hown : s.vm.findClass R_Machine = some m.cls) (hts : ∀ w ∈ w_Machine_advance, w.before args s = true) (hK : va_K (dC, dI) classes [(cI, .int)] s) (hE : tw_E adK adV adA A s s.heap) (hA : ∀ q : Nat, s.heap.size ≤ q → A q) (hr : meth.sig.returnType = none) (hlocks : meth.locks = false) {mc ms : Nat} {i2 : Nat → Int32} {a2 : Nat → Nat → Int32} {g2 : Nat → Nat} {r2 : Int32} (i : Nat → Int32) (a : Nat → Nat → Int32) (g : Nat → Nat)  (k2 : Nat × Nat) (hm : m_Machine_advance_b72 n i a g = some (i2, a2, g2, k2, r2)) : ∀ (o : Nat → Nat) (kc ks : Nat), kc + k2.1 = mc → ks + k2.2 = ms → ∀ (H : Heap) (locs : List Loc) (ls : Array Slot), va_P (dC, dI) classes (TW cI u o i a g) H → va_D A (TW cI u o i a g) → va_S A s.heap H locs → lv_has ls 2 [(0, .ref ((u 11)))] → W p l e ({ frames := 7, cells := mc, slots := ms, locals := 178 } : Room) s m args below meth c H locs kc ks (MQ below (va_Qv xVg (xBg dC dI cI u g2 i2 a2 A) A) args s mc ms A) (F0 m 72 ls []) := by
  have htt : ∀ w ∈ tw_T, w.before _ s = true := fun w h => hts w (List.mem_cons_of_mem _ h)
  intro o kc ks hkc hks H locs ls hP hD hS hl
  rw [m_Machine_advance_b72] at hm
  refine lv_aload_n hx hb d_Machine_advance_72 rfl (lv_at hl 0 rfl) ?_
  refine va_get (D := (dC, dI)) (ci := 11) (v := .ref ((u 8))) (C := R_Machine) (T := F_Machine) (N := 9) hx hb htt iw_Machine hown hK hP 11 xo_11 rfl 1 (Nat.le_of_ble_eq_true rfl) (htt _ lk_Machine_18) (fun _ h9 => h9) xg_11_1 d_Machine_advance_73 ?_
  refine va_get (D := (dC, dI)) (ci := 8) (v := .int (i 35)) (C := R_Line) (T := F_Line) (N := 18) hx hb htt iw_Line hown hK hP 8 xo_8 rfl 1 (Nat.le_of_ble_eq_true rfl) (htt _ lk_Machine_74) (fun _ h9 => h9) xg_8_1 d_Machine_advance_76 ?_
  refine lv_iconst (v := 1) hx hb d_Machine_advance_79 (by decide) ?_
  refine lv_icmp_ne (tgt := 103) hx hb d_Machine_advance_80 (by decide) (fun c_1 => ?_) (fun c_1 => ?_)
  · replace hm := if_f c_1 hm
    obtain ⟨e1, e2, e4, e5, e6, e3⟩ := re5 hm
    obtain ⟨hP, hD⟩ := x_eqg e1 e2 e4 hP hD
    refine W.widen (k := mc) (n := ms) (show kc ≤ mc by omega) (show ks ≤ ms by omega) ?_
    exact W.vret hx hb hr (fun t9 ht hW => ⟨⟨o, rfl, trivial, by rw [ht]; exact hP, hD⟩, hS.F ht⟩) hS.2.2 d_Machine_advance_103
  · replace hm := if_t c_1 hm
    refine lv_aload_n hx hb d_Machine_advance_83 rfl (lv_at hl 0 rfl) ?_
    refine va_get (D := (dC, dI)) (ci := 11) (v := .ref ((u 8))) (C := R_Machine) (T := F_Machine) (N := 9) hx hb htt iw_Machine hown hK hP 11 xo_11 rfl 1 (Nat.le_of_ble_eq_true rfl) (htt _ lk_Machine_18) (fun _ h9 => h9) xg_11_1 d_Machine_advance_84 ?_
    refine va_get (D := (dC, dI)) (ci := 8) (v := .int (i 37)) (C := R_Line) (T := F_Line) (N := 18) hx hb htt iw_Line hown hK hP 8 xo_8 rfl 3 (Nat.le_of_ble_eq_true rfl) (htt _ lk_Machine_77) (fun _ h9 => h9) xg_8_3 d_Machine_advance_87 ?_
    refine lv_sipush (v := 20000) hx hb d_Machine_advance_90 (by decide) ?_
    refine lv_icmp_lt (tgt := 103) hx hb d_Machine_advance_93 (by decide) (fun c_2 => ?_) (fun c_2 => ?_)
    · replace hm := if_t c_2 hm
      obtain ⟨e1, e2, e4, e5, e6, e3⟩ := re5 hm
      obtain ⟨hP, hD⟩ := x_eqg e1 e2 e4 hP hD
      refine W.widen (k := mc) (n := ms) (show kc ≤ mc by omega) (show ks ≤ ms by omega) ?_
      exact W.vret hx hb hr (fun t9 ht hW => ⟨⟨o, rfl, trivial, by rw [ht]; exact hP, hD⟩, hS.F ht⟩) hS.2.2 d_Machine_advance_103
    · replace hm := if_f c_2 hm
      refine lv_aload_n hx hb d_Machine_advance_96 rfl (lv_at hl 0 rfl) ?_
      refine lv_iconst (v := 3) hx hb d_Machine_advance_97 (by decide) ?_
      refine lv_bipush (v := 13) hx hb d_Machine_advance_98 (by decide) ?_
      obtain ⟨i_4, a_5, r_6, h_3, hm⟩ := ob_some hm
      have hFc := x_free hD hS hA
      refine xg_callv (va_runV (As := [.int 3, .int 13]) (rest := []) ⟨hx, hb, hml, hown, hts⟩ (x_Machine_finishLine l dC dI cI adK adV adA u o g H.size n h_3) (cwV 2 hts (tw_GV tw_cons cw_Machine_finishLine lk_Machine_106 in_Machine_finishLine sel_Machine_finishLine ini_Machine) rfl rfl rfl ⟨rfl, hd_Machine_finishLine⟩ ⟨Nat.le_of_ble_eq_true rfl, Nat.le_of_ble_eq_true rfl⟩) (xpV hK hP hD hS hE hFc xo_11 rfl) rfl rfl hl.1 rfl (lv_room (Nat.le_of_ble_eq_true rfl)) d_Machine_advance_100 ⟨show kc + 0 ≤ mc by omega, show ks + 0 ≤ ms by omega⟩) hS (fun q _ h => hFc q h) hFc (fun kc_7 ks_8 u9 t9 H locs ekc eks ht hvm e9 hB hz1 hk1 hS => ?_)
      replace hkc : kc_7 + k2.1 = mc := by omega
      replace hks : ks_8 + k2.2 = ms := by omega
      clear ekc eks
      obtain ⟨hP, hD⟩ := x_aft hB ht hFc
      clear hFc hk1 hz1 hvm hB ht
      obtain ⟨e1, e2, e4, e5, e6, e3⟩ := re5 hm
      obtain ⟨hP, hD⟩ := x_eqg e1 e2 e4 hP hD
      refine W.widen (k := mc) (n := ms) (show kc_7 ≤ mc by omega) (show ks_8 ≤ ms by omega) ?_
      exact W.vret hx hb hr (fun t9 ht hW => ⟨⟨o, rfl, trivial, by rw [ht]; exact hP, hD⟩, hS.F ht⟩) hS.2.2 d_Machine_advance_103
def m_Machine_advance_b63 (n : Nat) (rc_2 : (Nat → Int32) → (Nat → Nat → Int32) → (Nat → Nat) → Int32 → Option ((Nat → Int32) × (Nat → Nat → Int32) × (Nat → Nat) × (Nat × Nat) × Int32)) (i : Nat → Int32) (a : Nat → Nat → Int32) (g : Nat → Nat) (v1 : Int32) (s0 : Int32) : Option ((Nat → Int32) × (Nat → Nat → Int32) × (Nat → Nat) × (Nat × Nat) × Int32) := ob (m_Machine_take n g i a s0) (fun i_2 a_3 r_4 => ob1 (v1 + 1 : Int32) (fun x_7 => rc_2 i_2 a_3 g x_7))
set_option maxHeartbeats 4000000 in
set_option maxRecDepth 100000 in
theorem lb_Machine_advance_63 (l : Launch) (dC : Nat → ClassId) (dI : Nat → Nat → Nat) (cI : ClassId) (adK adV adA u : Nat → Nat) (n : Nat) {p : Program} {e : Env} {s : State} {m : MethodId} {args : Array Value} {below : List Frame} {meth : Method} {c : Code} {A : Nat → Prop} (hx : p.tables.exec = Jvm.exec) (hb : c.code = b_Machine_advance) (hml : c.maxLocals = 2) (hown : s.vm.findClass R_Machine = some m.cls) (hts : ∀ w ∈ w_Machine_advance, w.before args s = true) (hK : va_K (dC, dI) classes [(cI, .int)] s) (hE : tw_E adK adV adA A s s.heap) (hA : ∀ q : Nat, s.heap.size ≤ q → A q) (hr : meth.sig.returnType = none) (hlocks : meth.locks = false) {mc ms : Nat} {i2 : Nat → Int32} {a2 : Nat → Nat → Int32} {g2 : Nat → Nat} {r2 : Int32} (rc_2 : (Nat → Int32) → (Nat → Nat → Int32) → (Nat → Nat) → Int32 → Option ((Nat → Int32) × (Nat → Nat → Int32) × (Nat → Nat) × (Nat × Nat) × Int32)) (Hrc_2 : ∀ (i : Nat → Int32) (a : Nat → Nat → Int32) (g : Nat → Nat) (v1 : Int32) (k2 : Nat × Nat), rc_2 i a g v1 = some (i2, a2, g2, k2, r2) → ∀ (o : Nat → Nat) (kc ks : Nat), kc + k2.1 = mc → ks + k2.2 = ms → ∀ (H : Heap) (locs : List Loc) (ls : Array Slot), va_P (dC, dI) classes (TW cI u o i a g) H → va_D A (TW cI u o i a g) → va_S A s.heap H locs → lv_has ls 2 [(0, .ref ((u 11))), (1, .int v1)] → W p l e ({ frames := 7, cells := mc, slots := ms, locals := 178 } : Room) s m args below meth c H locs kc ks (MQ below (va_Qv xVg (xBg dC dI cI u g2 i2 a2 A) A) args s mc ms A) (F0 m 2 ls [])) (i : Nat → Int32) (a : Nat → Nat → Int32) (g : Nat → Nat) (v1 : Int32) (s0 : Int32) (k2 : Nat × Nat) (hm : m_Machine_advance_b63 n rc_2 i a g v1 s0 = some (i2, a2, g2, k2, r2)) : ∀ (o : Nat → Nat) (kc ks : Nat), kc + k2.1 = mc → ks + k2.2 = ms → ∀ (H : Heap) (locs : List Loc) (ls : Array Slot), va_P (dC, dI) classes (TW cI u o i a g) H → va_D A (TW cI u o i a g) → va_S A s.heap H locs → lv_has ls 2 [(0, .ref ((u 11))), (1, .int v1)] → W p l e ({ frames := 7, cells := mc, slots := ms, locals := 178 } : Room) s m args below meth c H locs kc ks (MQ below (va_Qv xVg (xBg dC dI cI u g2 i2 a2 A) A) args s mc ms A) (F0 m 63 ls [.int s0, .ref ((u 11))]) := by
  have htt : ∀ w ∈ tw_T, w.before _ s = true := fun w h => hts w (List.mem_cons_of_mem _ h)
  intro o kc ks hkc hks H locs ls hP hD hS hl
  rw [m_Machine_advance_b63] at hm
  obtain ⟨i_2, a_3, r_4, h_1, hm⟩ := ob_some hm
  have hFc := x_free hD hS hA
  refine xg_callv (va_runV (As := [.int s0]) (rest := []) ⟨hx, hb, hml, hown, hts⟩ (x_Machine_take l dC dI cI adK adV adA u o g H.size n h_1) (cwV 1 hts (tw_GV tw_cons cw_Machine_take lk_Machine_84 in_Machine_take sel_Machine_take ini_Machine) rfl rfl rfl ⟨rfl, hd_Machine_take⟩ ⟨Nat.le_of_ble_eq_true rfl, Nat.le_of_ble_eq_true rfl⟩) (xpV hK hP hD hS hE hFc xo_11 rfl) rfl rfl hl.1 rfl (lv_room (Nat.le_of_ble_eq_true rfl)) d_Machine_advance_63 ⟨show kc + 0 ≤ mc by omega, show ks + 0 ≤ ms by omega⟩) hS (fun q _ h => hFc q h) hFc (fun kc_5 ks_6 u9 t9 H locs ekc eks ht hvm e9 hB hz1 hk1 hS => ?_)
  replace hkc : kc_5 + k2.1 = mc := by omega
  replace hks : ks_6 + k2.2 = ms := by omega
  clear ekc eks
  obtain ⟨hP, hD⟩ := x_aft hB ht hFc
  clear hFc hk1 hz1 hvm hB ht
  obtain ⟨x_7, ex_7⟩ : ∃ y9 : Int32, y9 = v1 + 1 := ⟨_, rfl⟩
  replace hm := ob1_at ex_7 hm
  refine lv_iinc (v := x_7) (lv' := [(1, .int x_7), (0, .ref ((u 11)))]) hx hb d_Machine_advance_66 hl (k := 1) rfl (by rw [ex_7]; rfl) (by decide) rfl (fun ls hl => ?_)
  refine lv_goto (tgt := 2) hx hb d_Machine_advance_69 (by decide) ?_
  exact Hrc_2 _ _ _ _ _ hm o kc_5 ks_6 hkc hks _ _ _ hP hD hS (lv_sub hl [1, 0] rfl)
def m_Machine_advance_b2 (n : Nat) : Nat → (Nat → Int32) → (Nat → Nat → Int32) → (Nat → Nat) → Int32 → Option ((Nat → Int32) × (Nat → Nat → Int32) × (Nat → Nat) × (Nat × Nat) × Int32)
  | 0, _, _, _, _ => none
  | f + 1, i, a, g, v1 => if ((1000000 : Int32)) ≤ v1 then m_Machine_advance_b72 n i a g else if ((i 35)) = ((1 : Int32)) then if ((i 44)) = ((0 : Int32)) then if ((i 46)) = ((0 : Int32)) then ob (m_Machine_meet n g i a) (fun i_23 a_24 r_25 => m_Machine_advance_b63 n (m_Machine_advance_b2 n f) i_23 a_24 g v1 r_25) else if ((i 46)) = ((1 : Int32)) then ob (m_Machine_settle n g i a) (fun i_17 a_18 r_19 => m_Machine_advance_b63 n (m_Machine_advance_b2 n f) i_17 a_18 g v1 r_19) else obG (m_Machine_finishList n g i a) (fun i_7 a_8 g_9 r_11 => m_Machine_advance_b63 n (m_Machine_advance_b2 n f) i_7 a_8 g_9 v1 r_11) else m_Machine_advance_b72 n i a g else m_Machine_advance_b72 n i a g
set_option maxHeartbeats 4000000 in
set_option maxRecDepth 100000 in
theorem lb_Machine_advance_2 (l : Launch) (dC : Nat → ClassId) (dI : Nat → Nat → Nat) (cI : ClassId) (adK adV adA u : Nat → Nat) (n : Nat) {p : Program} {e : Env} {s : State} {m : MethodId} {args : Array Value} {below : List Frame} {meth : Method} {c : Code} {A : Nat → Prop} (hx : p.tables.exec = Jvm.exec) (hb : c.code = b_Machine_advance) (hml : c.maxLocals = 2) (hown : s.vm.findClass R_Machine = some m.cls) (hts : ∀ w ∈ w_Machine_advance, w.before args s = true) (hK : va_K (dC, dI) classes [(cI, .int)] s) (hE : tw_E adK adV adA A s s.heap) (hA : ∀ q : Nat, s.heap.size ≤ q → A q) (hr : meth.sig.returnType = none) (hlocks : meth.locks = false) {mc ms : Nat} {i2 : Nat → Int32} {a2 : Nat → Nat → Int32} {g2 : Nat → Nat} {r2 : Int32} : ∀ (f : Nat) (i : Nat → Int32) (a : Nat → Nat → Int32) (g : Nat → Nat) (v1 : Int32) (k2 : Nat × Nat), m_Machine_advance_b2 n f i a g v1 = some (i2, a2, g2, k2, r2) → ∀ (o : Nat → Nat) (kc ks : Nat), kc + k2.1 = mc → ks + k2.2 = ms → ∀ (H : Heap) (locs : List Loc) (ls : Array Slot), va_P (dC, dI) classes (TW cI u o i a g) H → va_D A (TW cI u o i a g) → va_S A s.heap H locs → lv_has ls 2 [(0, .ref ((u 11))), (1, .int v1)] → W p l e ({ frames := 7, cells := mc, slots := ms, locals := 178 } : Room) s m args below meth c H locs kc ks (MQ below (va_Qv xVg (xBg dC dI cI u g2 i2 a2 A) A) args s mc ms A) (F0 m 2 ls []) := by
  have htt : ∀ w ∈ tw_T, w.before _ s = true := fun w h => hts w (List.mem_cons_of_mem _ h)
  intro f
  induction f with
  | zero =>
    intro i a g v1 k2 hm
    rw [m_Machine_advance_b2] at hm
    cases hm
  | succ f ih =>
    intro i a g v1 k2 hm o kc ks hkc hks H locs ls hP hD hS hl
    rw [m_Machine_advance_b2] at hm
    refine lv_iload_n hx hb d_Machine_advance_2 rfl (lv_at hl 1 rfl) ?_
    refine lv_ldc (v := 1000000) hx hb hown (htt _ lk_Machine_93) d_Machine_advance_3 ?_
    refine lv_icmp_ge (tgt := 72) hx hb d_Machine_advance_5 (by decide) (fun c_1 => ?_) (fun c_1 => ?_)
    · replace hm := if_t c_1 hm
      exact lb_Machine_advance_72 l dC dI cI adK adV adA u n hx hb hml hown hts hK hE hA hr hlocks _ _ _ _ hm o kc ks hkc hks _ _ _ hP hD hS (lv_sub hl [0] rfl)
    · replace hm := if_f c_1 hm
      refine lv_aload_n hx hb d_Machine_advance_8 rfl (lv_at hl 0 rfl) ?_
      refine va_get (D := (dC, dI)) (ci := 11) (v := .ref ((u 8))) (C := R_Machine) (T := F_Machine) (N := 9) hx hb htt iw_Machine hown hK hP 11 xo_11 rfl 1 (Nat.le_of_ble_eq_true rfl) (htt _ lk_Machine_18) (fun _ h9 => h9) xg_11_1 d_Machine_advance_9 ?_
      refine va_get (D := (dC, dI)) (ci := 8) (v := .int (i 35)) (C := R_Line) (T := F_Line) (N := 18) hx hb htt iw_Line hown hK hP 8 xo_8 rfl 1 (Nat.le_of_ble_eq_true rfl) (htt _ lk_Machine_74) (fun _ h9 => h9) xg_8_1 d_Machine_advance_12 ?_
      refine lv_iconst (v := 1) hx hb d_Machine_advance_15 (by decide) ?_
      refine lv_icmp_ne (tgt := 72) hx hb d_Machine_advance_16 (by decide) (fun c_2 => ?_) (fun c_2 => ?_)
      · replace hm := if_f c_2 hm
        exact lb_Machine_advance_72 l dC dI cI adK adV adA u n hx hb hml hown hts hK hE hA hr hlocks _ _ _ _ hm o kc ks hkc hks _ _ _ hP hD hS (lv_sub hl [0] rfl)
      · replace hm := if_t c_2 hm
        refine lv_aload_n hx hb d_Machine_advance_19 rfl (lv_at hl 0 rfl) ?_
        refine va_get (D := (dC, dI)) (ci := 11) (v := .ref ((u 9))) (C := R_Machine) (T := F_Machine) (N := 9) hx hb htt iw_Machine hown hK hP 11 xo_11 rfl 2 (Nat.le_of_ble_eq_true rfl) (htt _ lk_Machine_22) (fun _ h9 => h9) xg_11_2 d_Machine_advance_20 ?_
        refine va_get (D := (dC, dI)) (ci := 9) (v := .int (i 44)) (C := R_Waiting) (T := F_Waiting) (N := 11) hx hb htt iw_Waiting hown hK hP 9 xo_9 rfl 10 (Nat.le_of_ble_eq_true rfl) (htt _ lk_Machine_94) (fun _ h9 => h9) xg_9_10 d_Machine_advance_23 ?_
        refine lv_if_ne (tgt := 72) hx hb d_Machine_advance_26 (by decide) (fun c_3 => ?_) (fun c_3 => ?_)
        · replace hm := if_f c_3 hm
          exact lb_Machine_advance_72 l dC dI cI adK adV adA u n hx hb hml hown hts hK hE hA hr hlocks _ _ _ _ hm o kc ks hkc hks _ _ _ hP hD hS (lv_sub hl [0] rfl)
        · replace hm := if_t c_3 hm
          refine lv_aload_n hx hb d_Machine_advance_29 rfl (lv_at hl 0 rfl) ?_
          refine lv_aload_n hx hb d_Machine_advance_30 rfl (lv_at hl 0 rfl) ?_
          refine va_get (D := (dC, dI)) (ci := 11) (v := .int (i 46)) (C := R_Machine) (T := F_Machine) (N := 9) hx hb htt iw_Machine hown hK hP 11 xo_11 rfl 7 (Nat.le_of_ble_eq_true rfl) (htt _ lk_Machine_62) (fun _ h9 => h9) xg_11_7 d_Machine_advance_31 ?_
          refine lv_if_ne (tgt := 44) hx hb d_Machine_advance_34 (by decide) (fun c_4 => ?_) (fun c_4 => ?_)
          · replace hm := if_f c_4 hm
            refine lv_aload_n hx hb d_Machine_advance_44 rfl (lv_at hl 0 rfl) ?_
            refine va_get (D := (dC, dI)) (ci := 11) (v := .int (i 46)) (C := R_Machine) (T := F_Machine) (N := 9) hx hb htt iw_Machine hown hK hP 11 xo_11 rfl 7 (Nat.le_of_ble_eq_true rfl) (htt _ lk_Machine_62) (fun _ h9 => h9) xg_11_7 d_Machine_advance_45 ?_
            refine lv_iconst (v := 1) hx hb d_Machine_advance_48 (by decide) ?_
            refine lv_icmp_ne (tgt := 59) hx hb d_Machine_advance_49 (by decide) (fun c_5 => ?_) (fun c_5 => ?_)
            · replace hm := if_f c_5 hm
              refine lv_aload_n hx hb d_Machine_advance_59 rfl (lv_at hl 0 rfl) ?_
              obtain ⟨i_7, a_8, g_9, k_10, r_11, k_12, h_6, hm, e7, e8⟩ := obG_some hm
              have hFc := x_free hD hS hA
              refine xg_calli (va_runV (As := []) (rest := [.ref ((u 11))]) ⟨hx, hb, hml, hown, hts⟩ (x_Machine_finishList l dC dI cI adK adV adA u o g H.size n h_6) (cwV 0 hts (tw_GV tw_cons cw_Machine_finishList lk_Machine_103 in_Machine_finishList sel_Machine_finishList ini_Machine) rfl rfl rfl ⟨rfl, hd_Machine_finishList⟩ ⟨Nat.le_of_ble_eq_true rfl, Nat.le_of_ble_eq_true rfl⟩) (xpV hK hP hD hS hE hFc xo_11 rfl) rfl rfl hl.1 rfl (lv_room (Nat.le_of_ble_eq_true rfl)) d_Machine_advance_60 ⟨show kc + k_10.1 ≤ mc by omega, show ks + k_10.2 ≤ ms by omega⟩) hS (fun q _ h => hFc q h) hFc (fun kc_14 ks_15 r9 o_13 t9 H locs ekc eks ht hvm e9 hB hz1 hk1 hS => ?_)
              replace hkc : kc_14 + k_12.1 = mc := by omega
              replace hks : ks_15 + k_12.2 = ms := by omega
              clear e7 e8
              clear ekc eks
              have e9 : r_11 = r9 := e9
              subst e9
              obtain ⟨hP, hD⟩ := x_aftg hB ht hFc
              clear hFc hk1 hz1 hvm hB ht
              exact lb_Machine_advance_63 l dC dI cI adK adV adA u n hx hb hml hown hts hK hE hA hr hlocks (m_Machine_advance_b2 n f) ih _ _ _ _ _ _ hm o_13 kc_14 ks_15 hkc hks _ _ _ hP hD hS (lv_sub hl [0, 1] rfl)
            · replace hm := if_t c_5 hm
              refine lv_aload_n hx hb d_Machine_advance_52 rfl (lv_at hl 0 rfl) ?_
              obtain ⟨i_17, a_18, r_19, h_16, hm⟩ := ob_some hm
              have hFc := x_free hD hS hA
              refine xg_calli (va_runV (As := []) (rest := [.ref ((u 11))]) ⟨hx, hb, hml, hown, hts⟩ (x_Machine_settle l dC dI cI adK adV adA u o g H.size n h_16) (cwV 0 hts (tw_GV tw_cons cw_Machine_settle lk_Machine_100 in_Machine_settle sel_Machine_settle ini_Machine) rfl rfl rfl ⟨rfl, hd_Machine_settle⟩ ⟨Nat.le_of_ble_eq_true rfl, Nat.le_of_ble_eq_true rfl⟩) (xpV hK hP hD hS hE hFc xo_11 rfl) rfl rfl hl.1 rfl (lv_room (Nat.le_of_ble_eq_true rfl)) d_Machine_advance_53 ⟨show kc + 0 ≤ mc by omega, show ks + 0 ≤ ms by omega⟩) hS (fun q _ h => hFc q h) hFc (fun kc_20 ks_21 r9 u9 t9 H locs ekc eks ht hvm e9 hB hz1 hk1 hS => ?_)
              replace hkc : kc_20 + k2.1 = mc := by omega
              replace hks : ks_21 + k2.2 = ms := by omega
              clear ekc eks
              have e9 : r_19 = r9 := e9
              subst e9
              obtain ⟨hP, hD⟩ := x_aft hB ht hFc
              clear hFc hk1 hz1 hvm hB ht
              refine lv_goto (tgt := 63) hx hb d_Machine_advance_56 (by decide) ?_
              exact lb_Machine_advance_63 l dC dI cI adK adV adA u n hx hb hml hown hts hK hE hA hr hlocks (m_Machine_advance_b2 n f) ih _ _ _ _ _ _ hm o kc_20 ks_21 hkc hks _ _ _ hP hD hS (lv_sub hl [0, 1] rfl)
          · replace hm := if_t c_4 hm
            refine lv_aload_n hx hb d_Machine_advance_37 rfl (lv_at hl 0 rfl) ?_
            obtain ⟨i_23, a_24, r_25, h_22, hm⟩ := ob_some hm
            have hFc := x_free hD hS hA
            refine xg_calli (va_runV (As := []) (rest := [.ref ((u 11))]) ⟨hx, hb, hml, hown, hts⟩ (x_Machine_meet l dC dI cI adK adV adA u o g H.size n h_22) (cwV 0 hts (tw_GV tw_cons cw_Machine_meet lk_Machine_97 in_Machine_meet sel_Machine_meet ini_Machine) rfl rfl rfl ⟨rfl, hd_Machine_meet⟩ ⟨Nat.le_of_ble_eq_true rfl, Nat.le_of_ble_eq_true rfl⟩) (xpV hK hP hD hS hE hFc xo_11 rfl) rfl rfl hl.1 rfl (lv_room (Nat.le_of_ble_eq_true rfl)) d_Machine_advance_38 ⟨show kc + 0 ≤ mc by omega, show ks + 0 ≤ ms by omega⟩) hS (fun q _ h => hFc q h) hFc (fun kc_26 ks_27 r9 u9 t9 H locs ekc eks ht hvm e9 hB hz1 hk1 hS => ?_)
            replace hkc : kc_26 + k2.1 = mc := by omega
            replace hks : ks_27 + k2.2 = ms := by omega
            clear ekc eks
            have e9 : r_25 = r9 := e9
            subst e9
            obtain ⟨hP, hD⟩ := x_aft hB ht hFc
            clear hFc hk1 hz1 hvm hB ht
            refine lv_goto (tgt := 63) hx hb d_Machine_advance_41 (by decide) ?_
            exact lb_Machine_advance_63 l dC dI cI adK adV adA u n hx hb hml hown hts hK hE hA hr hlocks (m_Machine_advance_b2 n f) ih _ _ _ _ _ _ hm o kc_26 ks_27 hkc hks _ _ _ hP hD hS (lv_sub hl [0, 1] rfl)
def m_Machine_advance (n : Nat) (g : Nat → Nat) (i : Nat → Int32) (a : Nat → Nat → Int32)  : Option ((Nat → Int32) × (Nat → Nat → Int32) × (Nat → Nat) × (Nat × Nat) × Int32) := m_Machine_advance_b2 n n i a g (0 : Int32)
set_option maxHeartbeats 4000000 in
set_option maxRecDepth 100000 in
theorem x_Machine_advance (l : Launch) (dC : Nat → ClassId) (dI : Nat → Nat → Nat) (cI : ClassId) (adK adV adA u o g : Nat → Nat) (sz : Nat) (n : Nat) {i : Nat → Int32} {a : Nat → Nat → Int32}  {i2 : Nat → Int32} {a2 : Nat → Nat → Int32} {g2 : Nat → Nat} {k2 : Nat × Nat} {r2 : Int32} (hm : m_Machine_advance n g i a = some (i2, a2, g2, k2, r2)) : Met l y_Machine_advance w_Machine_advance ({ frames := 7, cells := k2.1, slots := k2.2, locals := 178 } : Room) (va_Pc [.ref ((u 11))] (xE dC dI cI adK adV adA u o g i a sz)) (va_Qv xVg (xBg dC dI cI u g2 i2 a2 (va_A (TW cI u o i a g) sz)) (va_A (TW cI u o i a g) sz)) k2.1 k2.2 ((va_A (TW cI u o i a g) sz)) := by
  refine Met.ofW (cc := b_Machine_advance) (maxL := 2) (ret := none) (by decide) rfl ?_
  intro p e s m args below meth c s₁ B hml hv
  obtain ⟨rfl, hsz, hP, hK, hE, hD0⟩ := hv
  have hx := B.exec
  have hb := B.bytes
  have hr := B.returns
  have hts := atoms_spec (ws := w_Machine_advance) B.pre
  have htt : ∀ w ∈ tw_T, w.before _ s = true := fun w h => hts w (List.mem_cons_of_mem _ h)
  have hown : s.vm.findClass R_Machine = some m.cls := findClass_of_methodNamed B.named
  have hlocks := B.notSynchronized
  subst hsz
  have hD := hD0.self (sz := s.heap.size)
  generalize hAe : (va_A (TW cI u o i a g) s.heap.size) = A at hD hE ⊢
  have hA : ∀ q : Nat, s.heap.size ≤ q → A q := fun q h => by rw [← hAe]; exact Or.inr h
  have hS : va_S A s.heap s.heap [] := va_S.rf
  obtain ⟨mc, ms, emc, ems⟩ : ∃ mc ms : Nat, k2.1 = mc ∧ k2.2 = ms := ⟨_, _, rfl, rfl⟩
  have hkc : 0 + k2.1 = mc := by rw [Nat.zero_add]; exact emc
  have hks : 0 + k2.2 = ms := by rw [Nat.zero_add]; exact ems
  rw [emc, ems]
  clear emc ems
  have hl := lv_entry ([.ref ((u 11))]) (n := 2) (Nat.le_of_ble_eq_true rfl)
  rw [lg_entry_eq]
  generalize (lg_sl ([.ref ((u 11))]) ++ List.replicate (2 - (lg_sl ([.ref ((u 11))])).length) Slot.unset).toArray = ls at hl ⊢
  have hl : lv_has ls 2 [(0, .ref ((u 11)))] := hl
  rw [m_Machine_advance] at hm
  refine lv_iconst (v := 0) hx hb d_Machine_advance_0 (by decide) ?_
  refine lv_istore_n (lv' := [(1, .int 0), (0, .ref ((u 11)))]) hx hb d_Machine_advance_1 rfl hl (by decide) rfl (fun ls hl => ?_)
  exact lb_Machine_advance_2 l dC dI cI adK adV adA u n hx hb hml hown hts hK hE hA hr hlocks n _ _ _ _ _ hm o 0 0 hkc hks _ _ _ hP hD hS (lv_sub hl [1, 0] rfl)

def m_Machine_applyReady (n : Nat) (g : Nat → Nat) (i : Nat → Int32) (a : Nat → Nat → Int32)  : Option ((Nat → Int32) × (Nat → Nat → Int32) × (Nat → Nat) × (Nat × Nat) × Int32) := ob1 (i 44 : Int32) (fun x_1 => ob0 (m_Math_min n (i 42) (400 : Int32)) (fun r_3 => ck r_3 401 (ob1 (a 48 r_3.toNatClampNeg : Int32) (fun x_7 => ob1 (upd i 44 0 : Nat → Int32) (fun i_8 => if x_1 = ((3 : Int32)) then ob (m_Machine_beginTurn n g i_8 a) (fun i_72 a_73 r_74 => some (i_72, a_73, g, (0, 0), r_74)) else ck r_3 401 (ob (m_Waiting_release n g i_8 a (a 49 r_3.toNatClampNeg)) (fun i_12 a_13 r_14 => if x_1 = ((2 : Int32)) then ob (m_Machine_openCall n g i_12 a_13 r_3) (fun i_66 a_67 r_68 => some (i_66, a_67, g, (0, 0), r_68)) else ob0 (m_Deeds_inputsFit n g i_12 a_13 x_7) (fun r_19 => if r_19 = ((0 : Int32)) then some (i_12, a_13, g, (0, 0), (-2147483645)) else if ((19 : Int32)) < x_7 then if ((31 : Int32)) < x_7 then if ((49 : Int32)) < x_7 then if ((59 : Int32)) < x_7 then obG (m_Machine_runningWord n g i_12 a_13 x_7) (fun i_28 a_29 g_30 r_32 => some (i_28, a_29, g_30, (0, 0), r_32)) else ob (m_Deeds_otherWord n g i_12 a_13 x_7) (fun i_38 a_39 r_40 => some (i_38, a_39, g, (0, 0), r_40)) else obG (m_Deeds_valueWord n g i_12 a_13 x_7) (fun i_44 a_45 g_46 r_48 => some (i_44, a_45, g_46, (0, 0), r_48)) else ob (m_Deeds_numberWord n g i_12 a_13 x_7) (fun i_54 a_55 r_56 => some (i_54, a_55, g, (0, 0), r_56)) else ob (m_Deeds_turtleWord n g i_12 a_13 x_7) (fun i_60 a_61 r_62 => some (i_60, a_61, g, (0, 0), r_62))))))))))
set_option maxHeartbeats 4000000 in
set_option maxRecDepth 100000 in
theorem x_Machine_applyReady (l : Launch) (dC : Nat → ClassId) (dI : Nat → Nat → Nat) (cI : ClassId) (adK adV adA u o g : Nat → Nat) (sz : Nat) (n : Nat) {i : Nat → Int32} {a : Nat → Nat → Int32}  {i2 : Nat → Int32} {a2 : Nat → Nat → Int32} {g2 : Nat → Nat} {k2 : Nat × Nat} {r2 : Int32} (hm : m_Machine_applyReady n g i a = some (i2, a2, g2, k2, r2)) : Met l y_Machine_applyReady w_Machine_applyReady ({ frames := 7, cells := k2.1, slots := k2.2, locals := 182 } : Room) (va_Pc [.ref ((u 11))] (xE dC dI cI adK adV adA u o g i a sz)) (va_Qi (xRg r2) (xBg dC dI cI u g2 i2 a2 (va_A (TW cI u o i a g) sz)) (va_A (TW cI u o i a g) sz)) k2.1 k2.2 ((va_A (TW cI u o i a g) sz)) := by
  refine Met.ofW (cc := b_Machine_applyReady) (maxL := 4) (ret := (some .int)) (by decide) rfl ?_
  intro p e s m args below meth c s₁ B hml hv
  obtain ⟨rfl, hsz, hP, hK, hE, hD0⟩ := hv
  have hx := B.exec
  have hb := B.bytes
  have hr := B.returns
  have hts := atoms_spec (ws := w_Machine_applyReady) B.pre
  have htt : ∀ w ∈ tw_T, w.before _ s = true := fun w h => hts w (List.mem_cons_of_mem _ h)
  have hown : s.vm.findClass R_Machine = some m.cls := findClass_of_methodNamed B.named
  have hlocks := B.notSynchronized
  subst hsz
  have hD := hD0.self (sz := s.heap.size)
  generalize hAe : (va_A (TW cI u o i a g) s.heap.size) = A at hD hE ⊢
  have hA : ∀ q : Nat, s.heap.size ≤ q → A q := fun q h => by rw [← hAe]; exact Or.inr h
  have hS : va_S A s.heap s.heap [] := va_S.rf
  obtain ⟨mc, ms, emc, ems⟩ : ∃ mc ms : Nat, k2.1 = mc ∧ k2.2 = ms := ⟨_, _, rfl, rfl⟩
  have hkc : 0 + k2.1 = mc := by rw [Nat.zero_add]; exact emc
  have hks : 0 + k2.2 = ms := by rw [Nat.zero_add]; exact ems
  rw [emc, ems]
  clear emc ems
  have hl := lv_entry ([.ref ((u 11))]) (n := 4) (Nat.le_of_ble_eq_true rfl)
  rw [lg_entry_eq]
  generalize (lg_sl ([.ref ((u 11))]) ++ List.replicate (4 - (lg_sl ([.ref ((u 11))])).length) Slot.unset).toArray = ls at hl ⊢
  have hl : lv_has ls 4 [(0, .ref ((u 11)))] := hl
  rw [m_Machine_applyReady] at hm
  refine lv_aload_n hx hb d_Machine_applyReady_0 rfl (lv_at hl 0 rfl) ?_
  refine va_get (D := (dC, dI)) (ci := 11) (v := .ref ((u 9))) (C := R_Machine) (T := F_Machine) (N := 9) hx hb htt iw_Machine hown hK hP 11 xo_11 rfl 2 (Nat.le_of_ble_eq_true rfl) (htt _ lk_Machine_22) (fun _ h9 => h9) xg_11_2 d_Machine_applyReady_1 ?_
  refine va_get (D := (dC, dI)) (ci := 9) (v := .int (i 44)) (C := R_Waiting) (T := F_Waiting) (N := 11) hx hb htt iw_Waiting hown hK hP 9 xo_9 rfl 10 (Nat.le_of_ble_eq_true rfl) (htt _ lk_Machine_94) (fun _ h9 => h9) xg_9_10 d_Machine_applyReady_4 ?_
  refine lv_topi (fun x_1 ex_1 => ?_)
  replace hm := ob1_at ex_1 hm
  refine lv_istore_n (lv' := [(1, .int x_1), (0, .ref ((u 11)))]) hx hb d_Machine_applyReady_7 rfl hl (by decide) rfl (fun ls hl => ?_)
  refine lv_aload_n hx hb d_Machine_applyReady_8 rfl (lv_at hl 1 rfl) ?_
  refine va_get (D := (dC, dI)) (ci := 11) (v := .ref ((u 9))) (C := R_Machine) (T := F_Machine) (N := 9) hx hb htt iw_Machine hown hK hP 11 xo_11 rfl 2 (Nat.le_of_ble_eq_true rfl) (htt _ lk_Machine_22) (fun _ h9 => h9) xg_11_2 d_Machine_applyReady_9 ?_
  refine va_get (D := (dC, dI)) (ci := 9) (v := .int (i 42)) (C := R_Waiting) (T := F_Waiting) (N := 11) hx hb htt iw_Waiting hown hK hP 9 xo_9 rfl 7 (Nat.le_of_ble_eq_true rfl) (htt _ lk_Machine_42) (fun _ h9 => h9) xg_9_7 d_Machine_applyReady_12 ?_
  refine lv_sipush (v := 400) hx hb d_Machine_applyReady_15 (by decide) ?_
  obtain ⟨r_3, h_2, hm⟩ := ob0_some hm
  have hFc := x_free0 hS hA
  refine xg_calli (va_runS (As := [.int (i 42), .int 400]) (rest := []) ⟨hx, hb, hml, hown, hts⟩ (x_Math_min l s.heap.size n h_2) (va_cwS 2 hts (tw_GS tw_cons cw_Math_min lk_Machine_68 st_Math_min ini_Math) rfl rfl rfl hd_Math_min ⟨Nat.le_of_ble_eq_true rfl, Nat.le_of_ble_eq_true rfl⟩) xpS0 rfl rfl hl.1 rfl (lv_room (Nat.le_of_ble_eq_true rfl)) d_Machine_applyReady_18 ⟨show 0 + 0 ≤ mc by omega, show 0 + 0 ≤ ms by omega⟩) hS (fun q _ h => hFc q h) hFc (fun kc_4 ks_5 r9 u9 t9 H locs ekc eks ht hvm e9 hB hz1 hk1 hS => ?_)
  replace hkc : kc_4 + k2.1 = mc := by omega
  replace hks : ks_5 + k2.2 = ms := by omega
  clear ekc eks
  have e9 : r_3 = r9 := e9
  subst e9
  replace hP := x_keep hP hk1
  clear hFc hk1 hz1 hvm hB ht
  refine lv_istore_n (lv' := [(2, .int r_3), (1, .int x_1), (0, .ref ((u 11)))]) hx hb d_Machine_applyReady_21 rfl hl (by decide) rfl (fun ls hl => ?_)
  refine lv_aload_n hx hb d_Machine_applyReady_22 rfl (lv_at hl 2 rfl) ?_
  refine va_get (D := (dC, dI)) (ci := 11) (v := .ref ((u 9))) (C := R_Machine) (T := F_Machine) (N := 9) hx hb htt iw_Machine hown hK hP 11 xo_11 rfl 2 (Nat.le_of_ble_eq_true rfl) (htt _ lk_Machine_22) (fun _ h9 => h9) xg_11_2 d_Machine_applyReady_23 ?_
  refine va_get (D := (dC, dI)) (ci := 9) (v := .ref ((u 58))) (C := R_Waiting) (T := F_Waiting) (N := 11) hx hb htt iw_Waiting hown hK hP 9 xo_9 rfl 1 (Nat.le_of_ble_eq_true rfl) (htt _ lk_Machine_302) (fun _ h9 => h9) xg_9_1 d_Machine_applyReady_26 ?_
  refine lv_iload_n hx hb d_Machine_applyReady_29 rfl (lv_at hl 0 rfl) ?_
  obtain ⟨h_6, hm⟩ := ck_some hm
  refine va_iald hx hb hK hP 60 0 twA_48 rfl h_6 d_Machine_applyReady_30 ?_
  refine lv_topi (fun x_7 ex_7 => ?_)
  replace hm := ob1_at ex_7 hm
  refine lv_istore_n (lv' := [(3, .int x_7), (2, .int r_3), (1, .int x_1), (0, .ref ((u 11)))]) hx hb d_Machine_applyReady_31 rfl hl (by decide) rfl (fun ls hl => ?_)
  refine lv_aload_n hx hb d_Machine_applyReady_32 rfl (lv_at hl 3 rfl) ?_
  refine va_get (D := (dC, dI)) (ci := 11) (v := .ref ((u 9))) (C := R_Machine) (T := F_Machine) (N := 9) hx hb htt iw_Machine hown hK hP 11 xo_11 rfl 2 (Nat.le_of_ble_eq_true rfl) (htt _ lk_Machine_22) (fun _ h9 => h9) xg_11_2 d_Machine_applyReady_33 ?_
  refine lv_iconst (v := 0) hx hb d_Machine_applyReady_36 (by decide) ?_
  refine va_put (D := (dC, dI)) (ci := 9) (v := .int 0) (ty := .int) (C := R_Waiting) (T := F_Waiting) (N := 11) hx hb htt iw_Waiting t_Waiting t_Waiting_ok n_Waiting hown hK hP hD hS 9 xo_9 rfl 10 (Nat.le_of_ble_eq_true rfl) (htt _ lk_Machine_94) (fun _ h9 => h9) rfl (by decide +kernel) rfl rfl xl_9_10 d_Machine_applyReady_37 (fun H locs hP hD hS => ?_)
  obtain ⟨i_8, ei_8⟩ : ∃ y9 : Nat → Int32, y9 = upd i 44 0 := ⟨_, rfl⟩
  replace hm := ob1_at ei_8 hm
  obtain ⟨hP, hD⟩ := xw_44 ei_8 hP hD
  refine lv_iload_n hx hb d_Machine_applyReady_40 rfl (lv_at hl 2 rfl) ?_
  refine lv_iconst (v := 3) hx hb d_Machine_applyReady_41 (by decide) ?_
  refine lv_icmp_ne (tgt := 50) hx hb d_Machine_applyReady_42 (by decide) (fun c_9 => ?_) (fun c_9 => ?_)
  · replace hm := if_f c_9 hm
    refine lv_aload_n hx hb d_Machine_applyReady_50 rfl (lv_at hl 3 rfl) ?_
    refine va_get (D := (dC, dI)) (ci := 11) (v := .ref ((u 9))) (C := R_Machine) (T := F_Machine) (N := 9) hx hb htt iw_Machine hown hK hP 11 xo_11 rfl 2 (Nat.le_of_ble_eq_true rfl) (htt _ lk_Machine_22) (fun _ h9 => h9) xg_11_2 d_Machine_applyReady_51 ?_
    refine lv_aload_n hx hb d_Machine_applyReady_54 rfl (lv_at hl 3 rfl) ?_
    refine va_get (D := (dC, dI)) (ci := 11) (v := .ref ((u 9))) (C := R_Machine) (T := F_Machine) (N := 9) hx hb htt iw_Machine hown hK hP 11 xo_11 rfl 2 (Nat.le_of_ble_eq_true rfl) (htt _ lk_Machine_22) (fun _ h9 => h9) xg_11_2 d_Machine_applyReady_55 ?_
    refine va_get (D := (dC, dI)) (ci := 9) (v := .ref ((u 59))) (C := R_Waiting) (T := F_Waiting) (N := 11) hx hb htt iw_Waiting hown hK hP 9 xo_9 rfl 2 (Nat.le_of_ble_eq_true rfl) (htt _ lk_Machine_308) (fun _ h9 => h9) xg_9_2 d_Machine_applyReady_58 ?_
    refine lv_iload_n hx hb d_Machine_applyReady_61 rfl (lv_at hl 1 rfl) ?_
    obtain ⟨h_10, hm⟩ := ck_some hm
    refine va_iald hx hb hK hP 61 0 twA_49 rfl h_10 d_Machine_applyReady_62 ?_
    obtain ⟨i_12, a_13, r_14, h_11, hm⟩ := ob_some hm
    have hFc := x_free hD hS hA
    refine xg_callv (va_runV (As := [.int (a 49 r_3.toNatClampNeg)]) (rest := []) ⟨hx, hb, hml, hown, hts⟩ (x_Waiting_release l dC dI cI adK adV adA u o g H.size n h_11) (cwV 1 hts (tw_GV tw_cons cw_Waiting_release lk_Machine_311 in_Waiting_release sel_Waiting_release ini_Waiting) rfl rfl rfl ⟨rfl, hd_Waiting_release⟩ ⟨Nat.le_of_ble_eq_true rfl, Nat.le_of_ble_eq_true rfl⟩) (xpV hK hP hD hS hE hFc xo_9 rfl) rfl rfl hl.1 rfl (lv_room (Nat.le_of_ble_eq_true rfl)) d_Machine_applyReady_63 ⟨show kc_4 + 0 ≤ mc by omega, show ks_5 + 0 ≤ ms by omega⟩) hS (fun q _ h => hFc q h) hFc (fun kc_15 ks_16 u9 t9 H locs ekc eks ht hvm e9 hB hz1 hk1 hS => ?_)
    replace hkc : kc_15 + k2.1 = mc := by omega
    replace hks : ks_16 + k2.2 = ms := by omega
    clear ekc eks
    obtain ⟨hP, hD⟩ := x_aft hB ht hFc
    clear hFc hk1 hz1 hvm hB ht
    refine lv_iload_n hx hb d_Machine_applyReady_66 rfl (lv_at hl 2 rfl) ?_
    refine lv_iconst (v := 2) hx hb d_Machine_applyReady_67 (by decide) ?_
    refine lv_icmp_ne (tgt := 77) hx hb d_Machine_applyReady_68 (by decide) (fun c_17 => ?_) (fun c_17 => ?_)
    · replace hm := if_f c_17 hm
      refine lv_aload_n hx hb d_Machine_applyReady_77 rfl (lv_at hl 3 rfl) ?_
      refine va_get (D := (dC, dI)) (ci := 11) (v := .ref ((u 10))) (C := R_Machine) (T := F_Machine) (N := 9) hx hb htt iw_Machine hown hK hP 11 xo_11 rfl 6 (Nat.le_of_ble_eq_true rfl) (htt _ lk_Machine_38) (fun _ h9 => h9) xg_11_6 d_Machine_applyReady_78 ?_
      refine lv_iload_n hx hb d_Machine_applyReady_81 rfl (lv_at hl 0 rfl) ?_
      obtain ⟨r_19, h_18, hm⟩ := ob0_some hm
      have hFc := x_free0 hS hA
      refine xg_calli (va_runV (As := [.int x_7]) (rest := []) ⟨hx, hb, hml, hown, hts⟩ (x_Deeds_inputsFit l dC dI cI adK adV adA u o g H.size n h_18) (cwV 1 hts (tw_GV tw_cons cw_Deeds_inputsFit lk_Machine_317 in_Deeds_inputsFit sel_Deeds_inputsFit ini_Deeds) rfl rfl rfl ⟨rfl, hd_Deeds_inputsFit⟩ ⟨Nat.le_of_ble_eq_true rfl, Nat.le_of_ble_eq_true rfl⟩) (xpVr hK hP hS hE hFc xo_10 rfl) rfl rfl hl.1 rfl (lv_room (Nat.le_of_ble_eq_true rfl)) d_Machine_applyReady_82 ⟨show kc_15 + 0 ≤ mc by omega, show ks_16 + 0 ≤ ms by omega⟩) hS (fun q _ h => hFc q h) hFc (fun kc_20 ks_21 r9 u9 t9 H locs ekc eks ht hvm e9 hB hz1 hk1 hS => ?_)
      replace hkc : kc_20 + k2.1 = mc := by omega
      replace hks : ks_21 + k2.2 = ms := by omega
      clear ekc eks
      have e9 : r_19 = r9 := e9
      subst e9
      replace hP := x_keep hP hk1
      clear hFc hk1 hz1 hvm hB ht
      refine lv_if_ne (tgt := 92) hx hb d_Machine_applyReady_85 (by decide) (fun c_22 => ?_) (fun c_22 => ?_)
      · replace hm := if_f c_22 hm
        refine lv_iload_n hx hb d_Machine_applyReady_92 rfl (lv_at hl 0 rfl) ?_
        refine lv_bipush (v := 19) hx hb d_Machine_applyReady_93 (by decide) ?_
        refine lv_icmp_gt (tgt := 107) hx hb d_Machine_applyReady_95 (by decide) (fun c_23 => ?_) (fun c_23 => ?_)
        · replace hm := if_t c_23 hm
          refine lv_iload_n hx hb d_Machine_applyReady_107 rfl (lv_at hl 0 rfl) ?_
          refine lv_bipush (v := 31) hx hb d_Machine_applyReady_108 (by decide) ?_
          refine lv_icmp_gt (tgt := 122) hx hb d_Machine_applyReady_110 (by decide) (fun c_24 => ?_) (fun c_24 => ?_)
          · replace hm := if_t c_24 hm
            refine lv_iload_n hx hb d_Machine_applyReady_122 rfl (lv_at hl 0 rfl) ?_
            refine lv_bipush (v := 49) hx hb d_Machine_applyReady_123 (by decide) ?_
            refine lv_icmp_gt (tgt := 137) hx hb d_Machine_applyReady_125 (by decide) (fun c_25 => ?_) (fun c_25 => ?_)
            · replace hm := if_t c_25 hm
              refine lv_iload_n hx hb d_Machine_applyReady_137 rfl (lv_at hl 0 rfl) ?_
              refine lv_bipush (v := 59) hx hb d_Machine_applyReady_138 (by decide) ?_
              refine lv_icmp_gt (tgt := 154) hx hb d_Machine_applyReady_140 (by decide) (fun c_26 => ?_) (fun c_26 => ?_)
              · replace hm := if_t c_26 hm
                refine lv_aload_n hx hb d_Machine_applyReady_154 rfl (lv_at hl 3 rfl) ?_
                refine lv_iload_n hx hb d_Machine_applyReady_155 rfl (lv_at hl 0 rfl) ?_
                obtain ⟨i_28, a_29, g_30, k_31, r_32, k_33, h_27, hm, e7, e8⟩ := obG_some hm
                have hFc := x_free hD hS hA
                refine xg_calli (va_runV (As := [.int x_7]) (rest := []) ⟨hx, hb, hml, hown, hts⟩ (x_Machine_runningWord l dC dI cI adK adV adA u o g H.size n h_27) (cwV 1 hts (tw_GV tw_cons cw_Machine_runningWord lk_Machine_334 in_Machine_runningWord sel_Machine_runningWord ini_Machine) rfl rfl rfl ⟨rfl, hd_Machine_runningWord⟩ ⟨Nat.le_of_ble_eq_true rfl, Nat.le_of_ble_eq_true rfl⟩) (xpV hK hP hD hS hE hFc xo_11 rfl) rfl rfl hl.1 rfl (lv_room (Nat.le_of_ble_eq_true rfl)) d_Machine_applyReady_156 ⟨show kc_20 + k_31.1 ≤ mc by omega, show ks_21 + k_31.2 ≤ ms by omega⟩) hS (fun q _ h => hFc q h) hFc (fun kc_35 ks_36 r9 o_34 t9 H locs ekc eks ht hvm e9 hB hz1 hk1 hS => ?_)
                replace hkc : kc_35 + k_33.1 = mc := by omega
                replace hks : ks_36 + k_33.2 = ms := by omega
                clear e7 e8
                clear ekc eks
                have e9 : r_32 = r9 := e9
                subst e9
                obtain ⟨hP, hD⟩ := x_aftg hB ht hFc
                clear hFc hk1 hz1 hvm hB ht
                obtain ⟨e1, e2, e4, e5, e6, e3⟩ := re5 hm
                obtain ⟨hP, hD⟩ := x_eqg e1 e2 e4 hP hD
                refine W.widen (k := mc) (n := ms) (show kc_35 ≤ mc by omega) (show ks_36 ≤ ms by omega) ?_
                exact W.iret hx hb hr (fun t9 ht hW => ⟨⟨_, o_34, rfl, e3.symm, by rw [ht]; exact hP, hD⟩, hS.F ht⟩) hS.2.2 d_Machine_applyReady_159
              · replace hm := if_f c_26 hm
                refine lv_aload_n hx hb d_Machine_applyReady_143 rfl (lv_at hl 3 rfl) ?_
                refine va_get (D := (dC, dI)) (ci := 11) (v := .ref ((u 10))) (C := R_Machine) (T := F_Machine) (N := 9) hx hb htt iw_Machine hown hK hP 11 xo_11 rfl 6 (Nat.le_of_ble_eq_true rfl) (htt _ lk_Machine_38) (fun _ h9 => h9) xg_11_6 d_Machine_applyReady_144 ?_
                refine lv_iload_n hx hb d_Machine_applyReady_147 rfl (lv_at hl 0 rfl) ?_
                obtain ⟨i_38, a_39, r_40, h_37, hm⟩ := ob_some hm
                have hFc := x_free hD hS hA
                refine xg_calli (va_runV (As := [.int x_7]) (rest := []) ⟨hx, hb, hml, hown, hts⟩ (x_Deeds_otherWord l dC dI cI adK adV adA u o g H.size n h_37) (cwV 1 hts (tw_GV tw_cons cw_Deeds_otherWord lk_Machine_331 in_Deeds_otherWord sel_Deeds_otherWord ini_Deeds) rfl rfl rfl ⟨rfl, hd_Deeds_otherWord⟩ ⟨Nat.le_of_ble_eq_true rfl, Nat.le_of_ble_eq_true rfl⟩) (xpV hK hP hD hS hE hFc xo_10 rfl) rfl rfl hl.1 rfl (lv_room (Nat.le_of_ble_eq_true rfl)) d_Machine_applyReady_148 ⟨show kc_20 + 0 ≤ mc by omega, show ks_21 + 0 ≤ ms by omega⟩) hS (fun q _ h => hFc q h) hFc (fun kc_41 ks_42 r9 u9 t9 H locs ekc eks ht hvm e9 hB hz1 hk1 hS => ?_)
                replace hkc : kc_41 + k2.1 = mc := by omega
                replace hks : ks_42 + k2.2 = ms := by omega
                clear ekc eks
                have e9 : r_40 = r9 := e9
                subst e9
                obtain ⟨hP, hD⟩ := x_aft hB ht hFc
                clear hFc hk1 hz1 hvm hB ht
                refine lv_goto (tgt := 159) hx hb d_Machine_applyReady_151 (by decide) ?_
                obtain ⟨e1, e2, e4, e5, e6, e3⟩ := re5 hm
                obtain ⟨hP, hD⟩ := x_eqg e1 e2 e4 hP hD
                refine W.widen (k := mc) (n := ms) (show kc_41 ≤ mc by omega) (show ks_42 ≤ ms by omega) ?_
                exact W.iret hx hb hr (fun t9 ht hW => ⟨⟨_, o, rfl, e3.symm, by rw [ht]; exact hP, hD⟩, hS.F ht⟩) hS.2.2 d_Machine_applyReady_159
            · replace hm := if_f c_25 hm
              refine lv_aload_n hx hb d_Machine_applyReady_128 rfl (lv_at hl 3 rfl) ?_
              refine va_get (D := (dC, dI)) (ci := 11) (v := .ref ((u 10))) (C := R_Machine) (T := F_Machine) (N := 9) hx hb htt iw_Machine hown hK hP 11 xo_11 rfl 6 (Nat.le_of_ble_eq_true rfl) (htt _ lk_Machine_38) (fun _ h9 => h9) xg_11_6 d_Machine_applyReady_129 ?_
              refine lv_iload_n hx hb d_Machine_applyReady_132 rfl (lv_at hl 0 rfl) ?_
              obtain ⟨i_44, a_45, g_46, k_47, r_48, k_49, h_43, hm, e7, e8⟩ := obG_some hm
              have hFc := x_free hD hS hA
              refine xg_calli (va_runV (As := [.int x_7]) (rest := []) ⟨hx, hb, hml, hown, hts⟩ (x_Deeds_valueWord l dC dI cI adK adV adA u o g H.size n h_43) (cwV 1 hts (tw_GV tw_cons cw_Deeds_valueWord lk_Machine_328 in_Deeds_valueWord sel_Deeds_valueWord ini_Deeds) rfl rfl rfl ⟨rfl, hd_Deeds_valueWord⟩ ⟨Nat.le_of_ble_eq_true rfl, Nat.le_of_ble_eq_true rfl⟩) (xpV hK hP hD hS hE hFc xo_10 rfl) rfl rfl hl.1 rfl (lv_room (Nat.le_of_ble_eq_true rfl)) d_Machine_applyReady_133 ⟨show kc_20 + k_47.1 ≤ mc by omega, show ks_21 + k_47.2 ≤ ms by omega⟩) hS (fun q _ h => hFc q h) hFc (fun kc_51 ks_52 r9 o_50 t9 H locs ekc eks ht hvm e9 hB hz1 hk1 hS => ?_)
              replace hkc : kc_51 + k_49.1 = mc := by omega
              replace hks : ks_52 + k_49.2 = ms := by omega
              clear e7 e8
              clear ekc eks
              have e9 : r_48 = r9 := e9
              subst e9
              obtain ⟨hP, hD⟩ := x_aftg hB ht hFc
              clear hFc hk1 hz1 hvm hB ht
              obtain ⟨e1, e2, e4, e5, e6, e3⟩ := re5 hm
              obtain ⟨hP, hD⟩ := x_eqg e1 e2 e4 hP hD
              refine W.widen (k := mc) (n := ms) (show kc_51 ≤ mc by omega) (show ks_52 ≤ ms by omega) ?_
              exact W.iret hx hb hr (fun t9 ht hW => ⟨⟨_, o_50, rfl, e3.symm, by rw [ht]; exact hP, hD⟩, hS.F ht⟩) hS.2.2 d_Machine_applyReady_136
          · replace hm := if_f c_24 hm
            refine lv_aload_n hx hb d_Machine_applyReady_113 rfl (lv_at hl 3 rfl) ?_
            refine va_get (D := (dC, dI)) (ci := 11) (v := .ref ((u 10))) (C := R_Machine) (T := F_Machine) (N := 9) hx hb htt iw_Machine hown hK hP 11 xo_11 rfl 6 (Nat.le_of_ble_eq_true rfl) (htt _ lk_Machine_38) (fun _ h9 => h9) xg_11_6 d_Machine_applyReady_114 ?_
            refine lv_iload_n hx hb d_Machine_applyReady_117 rfl (lv_at hl 0 rfl) ?_
            obtain ⟨i_54, a_55, r_56, h_53, hm⟩ := ob_some hm
            have hFc := x_free hD hS hA
            refine xg_calli (va_runV (As := [.int x_7]) (rest := []) ⟨hx, hb, hml, hown, hts⟩ (x_Deeds_numberWord l dC dI cI adK adV adA u o g H.size n h_53) (cwV 1 hts (tw_GV tw_cons cw_Deeds_numberWord lk_Machine_325 in_Deeds_numberWord sel_Deeds_numberWord ini_Deeds) rfl rfl rfl ⟨rfl, hd_Deeds_numberWord⟩ ⟨Nat.le_of_ble_eq_true rfl, Nat.le_of_ble_eq_true rfl⟩) (xpV hK hP hD hS hE hFc xo_10 rfl) rfl rfl hl.1 rfl (lv_room (Nat.le_of_ble_eq_true rfl)) d_Machine_applyReady_118 ⟨show kc_20 + 0 ≤ mc by omega, show ks_21 + 0 ≤ ms by omega⟩) hS (fun q _ h => hFc q h) hFc (fun kc_57 ks_58 r9 u9 t9 H locs ekc eks ht hvm e9 hB hz1 hk1 hS => ?_)
            replace hkc : kc_57 + k2.1 = mc := by omega
            replace hks : ks_58 + k2.2 = ms := by omega
            clear ekc eks
            have e9 : r_56 = r9 := e9
            subst e9
            obtain ⟨hP, hD⟩ := x_aft hB ht hFc
            clear hFc hk1 hz1 hvm hB ht
            obtain ⟨e1, e2, e4, e5, e6, e3⟩ := re5 hm
            obtain ⟨hP, hD⟩ := x_eqg e1 e2 e4 hP hD
            refine W.widen (k := mc) (n := ms) (show kc_57 ≤ mc by omega) (show ks_58 ≤ ms by omega) ?_
            exact W.iret hx hb hr (fun t9 ht hW => ⟨⟨_, o, rfl, e3.symm, by rw [ht]; exact hP, hD⟩, hS.F ht⟩) hS.2.2 d_Machine_applyReady_121
        · replace hm := if_f c_23 hm
          refine lv_aload_n hx hb d_Machine_applyReady_98 rfl (lv_at hl 3 rfl) ?_
          refine va_get (D := (dC, dI)) (ci := 11) (v := .ref ((u 10))) (C := R_Machine) (T := F_Machine) (N := 9) hx hb htt iw_Machine hown hK hP 11 xo_11 rfl 6 (Nat.le_of_ble_eq_true rfl) (htt _ lk_Machine_38) (fun _ h9 => h9) xg_11_6 d_Machine_applyReady_99 ?_
          refine lv_iload_n hx hb d_Machine_applyReady_102 rfl (lv_at hl 0 rfl) ?_
          obtain ⟨i_60, a_61, r_62, h_59, hm⟩ := ob_some hm
          have hFc := x_free hD hS hA
          refine xg_calli (va_runV (As := [.int x_7]) (rest := []) ⟨hx, hb, hml, hown, hts⟩ (x_Deeds_turtleWord l dC dI cI adK adV adA u o g H.size n h_59) (cwV 1 hts (tw_GV tw_cons cw_Deeds_turtleWord lk_Machine_322 in_Deeds_turtleWord sel_Deeds_turtleWord ini_Deeds) rfl rfl rfl ⟨rfl, hd_Deeds_turtleWord⟩ ⟨Nat.le_of_ble_eq_true rfl, Nat.le_of_ble_eq_true rfl⟩) (xpV hK hP hD hS hE hFc xo_10 rfl) rfl rfl hl.1 rfl (lv_room (Nat.le_of_ble_eq_true rfl)) d_Machine_applyReady_103 ⟨show kc_20 + 0 ≤ mc by omega, show ks_21 + 0 ≤ ms by omega⟩) hS (fun q _ h => hFc q h) hFc (fun kc_63 ks_64 r9 u9 t9 H locs ekc eks ht hvm e9 hB hz1 hk1 hS => ?_)
          replace hkc : kc_63 + k2.1 = mc := by omega
          replace hks : ks_64 + k2.2 = ms := by omega
          clear ekc eks
          have e9 : r_62 = r9 := e9
          subst e9
          obtain ⟨hP, hD⟩ := x_aft hB ht hFc
          clear hFc hk1 hz1 hvm hB ht
          obtain ⟨e1, e2, e4, e5, e6, e3⟩ := re5 hm
          obtain ⟨hP, hD⟩ := x_eqg e1 e2 e4 hP hD
          refine W.widen (k := mc) (n := ms) (show kc_63 ≤ mc by omega) (show ks_64 ≤ ms by omega) ?_
          exact W.iret hx hb hr (fun t9 ht hW => ⟨⟨_, o, rfl, e3.symm, by rw [ht]; exact hP, hD⟩, hS.F ht⟩) hS.2.2 d_Machine_applyReady_106
      · replace hm := if_t c_22 hm
        refine lv_ldcw (v := (-2147483645)) hx hb hown (htt _ lk_Machine_276) d_Machine_applyReady_88 ?_
        obtain ⟨e1, e2, e4, e5, e6, e3⟩ := re5 hm
        obtain ⟨hP, hD⟩ := x_eqg e1 e2 e4 hP hD
        refine W.widen (k := mc) (n := ms) (show kc_20 ≤ mc by omega) (show ks_21 ≤ ms by omega) ?_
        exact W.iret hx hb hr (fun t9 ht hW => ⟨⟨_, o, rfl, e3.symm, by rw [ht]; exact hP, hD⟩, hS.F ht⟩) hS.2.2 d_Machine_applyReady_91
    · replace hm := if_t c_17 hm
      refine lv_aload_n hx hb d_Machine_applyReady_71 rfl (lv_at hl 3 rfl) ?_
      refine lv_iload_n hx hb d_Machine_applyReady_72 rfl (lv_at hl 1 rfl) ?_
      obtain ⟨i_66, a_67, r_68, h_65, hm⟩ := ob_some hm
      have hFc := x_free hD hS hA
      refine xg_calli (va_runV (As := [.int r_3]) (rest := []) ⟨hx, hb, hml, hown, hts⟩ (x_Machine_openCall l dC dI cI adK adV adA u o g H.size n h_65) (cwV 1 hts (tw_GV tw_cons cw_Machine_openCall lk_Machine_314 in_Machine_openCall sel_Machine_openCall ini_Machine) rfl rfl rfl ⟨rfl, hd_Machine_openCall⟩ ⟨Nat.le_of_ble_eq_true rfl, Nat.le_of_ble_eq_true rfl⟩) (xpV hK hP hD hS hE hFc xo_11 rfl) rfl rfl hl.1 rfl (lv_room (Nat.le_of_ble_eq_true rfl)) d_Machine_applyReady_73 ⟨show kc_15 + 0 ≤ mc by omega, show ks_16 + 0 ≤ ms by omega⟩) hS (fun q _ h => hFc q h) hFc (fun kc_69 ks_70 r9 u9 t9 H locs ekc eks ht hvm e9 hB hz1 hk1 hS => ?_)
      replace hkc : kc_69 + k2.1 = mc := by omega
      replace hks : ks_70 + k2.2 = ms := by omega
      clear ekc eks
      have e9 : r_68 = r9 := e9
      subst e9
      obtain ⟨hP, hD⟩ := x_aft hB ht hFc
      clear hFc hk1 hz1 hvm hB ht
      obtain ⟨e1, e2, e4, e5, e6, e3⟩ := re5 hm
      obtain ⟨hP, hD⟩ := x_eqg e1 e2 e4 hP hD
      refine W.widen (k := mc) (n := ms) (show kc_69 ≤ mc by omega) (show ks_70 ≤ ms by omega) ?_
      exact W.iret hx hb hr (fun t9 ht hW => ⟨⟨_, o, rfl, e3.symm, by rw [ht]; exact hP, hD⟩, hS.F ht⟩) hS.2.2 d_Machine_applyReady_76
  · replace hm := if_t c_9 hm
    refine lv_aload_n hx hb d_Machine_applyReady_45 rfl (lv_at hl 3 rfl) ?_
    obtain ⟨i_72, a_73, r_74, h_71, hm⟩ := ob_some hm
    have hFc := x_free hD hS hA
    refine xg_calli (va_runV (As := []) (rest := []) ⟨hx, hb, hml, hown, hts⟩ (x_Machine_beginTurn l dC dI cI adK adV adA u o g H.size n h_71) (cwV 0 hts (tw_GV tw_cons cw_Machine_beginTurn lk_Machine_305 in_Machine_beginTurn sel_Machine_beginTurn ini_Machine) rfl rfl rfl ⟨rfl, hd_Machine_beginTurn⟩ ⟨Nat.le_of_ble_eq_true rfl, Nat.le_of_ble_eq_true rfl⟩) (xpV hK hP hD hS hE hFc xo_11 rfl) rfl rfl hl.1 rfl (lv_room (Nat.le_of_ble_eq_true rfl)) d_Machine_applyReady_46 ⟨show kc_4 + 0 ≤ mc by omega, show ks_5 + 0 ≤ ms by omega⟩) hS (fun q _ h => hFc q h) hFc (fun kc_75 ks_76 r9 u9 t9 H locs ekc eks ht hvm e9 hB hz1 hk1 hS => ?_)
    replace hkc : kc_75 + k2.1 = mc := by omega
    replace hks : ks_76 + k2.2 = ms := by omega
    clear ekc eks
    have e9 : r_74 = r9 := e9
    subst e9
    obtain ⟨hP, hD⟩ := x_aft hB ht hFc
    clear hFc hk1 hz1 hvm hB ht
    obtain ⟨e1, e2, e4, e5, e6, e3⟩ := re5 hm
    obtain ⟨hP, hD⟩ := x_eqg e1 e2 e4 hP hD
    refine W.widen (k := mc) (n := ms) (show kc_75 ≤ mc by omega) (show ks_76 ≤ ms by omega) ?_
    exact W.iret hx hb hr (fun t9 ht hW => ⟨⟨_, o, rfl, e3.symm, by rw [ht]; exact hP, hD⟩, hS.F ht⟩) hS.2.2 d_Machine_applyReady_49

def m_Reader_read_b177 (n : Nat) (i : Nat → Int32) (a : Nat → Nat → Int32) (g : Nat → Nat)  : Option ((Nat → Int32) × (Nat → Nat → Int32) × (Nat → Nat) × (Nat × Nat) × Int32) := ob1 (upd i 24 0 : Nat → Int32) (fun i_1 => if ((i_1 26)) = ((0 : Int32)) then some (i_1, a, g, (0, 0), 1) else some (i_1, a, g, (0, 0), 0))
set_option maxHeartbeats 4000000 in
set_option maxRecDepth 100000 in
theorem lb_Reader_read_177 (l : Launch) (dC : Nat → ClassId) (dI : Nat → Nat → Nat) (cI : ClassId) (adK adV adA u : Nat → Nat) (n : Nat) {p : Program} {e : Env} {s : State} {m : MethodId} {args : Array Value} {below : List Frame} {meth : Method} {c : Code} {A : Nat → Prop} (hx : p.tables.exec = Jvm.exec) (hb : c.code = b_Reader_read) (hml : c.maxLocals = 8) (hown : s.vm.findClass R_Reader = some m.cls) (hts : ∀ w ∈ w_Reader_read, w.before args s = true) (hK : va_K (dC, dI) classes [(cI, .int)] s) (hE : tw_E adK adV adA A s s.heap) (hA : ∀ q : Nat, s.heap.size ≤ q → A q) (hr : meth.sig.returnType = (some .boolean)) (hlocks : meth.locks = false) {mc ms : Nat} {i2 : Nat → Int32} {a2 : Nat → Nat → Int32} {g2 : Nat → Nat} {r2 : Int32} (i : Nat → Int32) (a : Nat → Nat → Int32) (g : Nat → Nat)  (k2 : Nat × Nat) (hm : m_Reader_read_b177 n i a g = some (i2, a2, g2, k2, r2)) : ∀ (o : Nat → Nat) (kc ks : Nat), kc + k2.1 = mc → ks + k2.2 = ms → ∀ (H : Heap) (locs : List Loc) (ls : Array Slot), va_P (dC, dI) classes (TW cI u o i a g) H → va_D A (TW cI u o i a g) → va_S A s.heap H locs → lv_has ls 8 [(0, .ref ((u 7)))] → W p l e ({ frames := 8, cells := mc, slots := ms, locals := 200 } : Room) s m args below meth c H locs kc ks (MQ below (va_Qi (xRg r2) (xBg dC dI cI u g2 i2 a2 A) A) args s mc ms A) (F0 m 177 ls []) := by
  have htt : ∀ w ∈ tw_T, w.before _ s = true := fun w h => hts w (List.mem_cons_of_mem _ h)
  intro o kc ks hkc hks H locs ls hP hD hS hl
  rw [m_Reader_read_b177] at hm
  refine lv_aload_n hx hb d_Reader_read_177 rfl (lv_at hl 0 rfl) ?_
  refine lv_iconst (v := 0) hx hb d_Reader_read_178 (by decide) ?_
  refine va_put (D := (dC, dI)) (ci := 7) (v := .int 0) (ty := .int) (C := R_Reader) (T := F_Reader) (N := 19) hx hb htt iw_Reader t_Reader t_Reader_ok n_Reader hown hK hP hD hS 7 xo_7 rfl 3 (Nat.le_of_ble_eq_true rfl) (htt _ lk_Reader_38) (fun _ h9 => h9) rfl (by decide +kernel) rfl rfl xl_7_3 d_Reader_read_179 (fun H locs hP hD hS => ?_)
  obtain ⟨i_1, ei_1⟩ : ∃ y9 : Nat → Int32, y9 = upd i 24 0 := ⟨_, rfl⟩
  replace hm := ob1_at ei_1 hm
  obtain ⟨hP, hD⟩ := xw_24 ei_1 hP hD
  refine lv_aload_n hx hb d_Reader_read_182 rfl (lv_at hl 0 rfl) ?_
  refine va_get (D := (dC, dI)) (ci := 7) (v := .int (i_1 26)) (C := R_Reader) (T := F_Reader) (N := 19) hx hb htt iw_Reader hown hK hP 7 xo_7 rfl 5 (Nat.le_of_ble_eq_true rfl) (htt _ lk_Reader_51) (fun _ h9 => h9) xg_7_5 d_Reader_read_183 ?_
  refine lv_if_ne (tgt := 193) hx hb d_Reader_read_186 (by decide) (fun c_2 => ?_) (fun c_2 => ?_)
  · replace hm := if_f c_2 hm
    refine lv_iconst (v := 0) hx hb d_Reader_read_193 (by decide) ?_
    obtain ⟨e1, e2, e4, e5, e6, e3⟩ := re5 hm
    obtain ⟨hP, hD⟩ := x_eqg e1 e2 e4 hP hD
    refine W.widen (k := mc) (n := ms) (show kc ≤ mc by omega) (show ks ≤ ms by omega) ?_
    exact W.zret hx hb hr (by decide) (fun t9 ht hW => ⟨⟨_, o, rfl, e3.symm, by rw [ht]; exact hP, hD⟩, hS.F ht⟩) hS.2.2 d_Reader_read_194
  · replace hm := if_t c_2 hm
    refine lv_iconst (v := 1) hx hb d_Reader_read_189 (by decide) ?_
    refine lv_goto (tgt := 194) hx hb d_Reader_read_190 (by decide) ?_
    obtain ⟨e1, e2, e4, e5, e6, e3⟩ := re5 hm
    obtain ⟨hP, hD⟩ := x_eqg e1 e2 e4 hP hD
    refine W.widen (k := mc) (n := ms) (show kc ≤ mc by omega) (show ks ≤ ms by omega) ?_
    exact W.zret hx hb hr (by decide) (fun t9 ht hW => ⟨⟨_, o, rfl, e3.symm, by rw [ht]; exact hP, hD⟩, hS.F ht⟩) hS.2.2 d_Reader_read_194
def m_Reader_read_b158 (n : Nat) (i : Nat → Int32) (a : Nat → Nat → Int32) (g : Nat → Nat) (v2 : Int32) : Option ((Nat → Int32) × (Nat → Nat → Int32) × (Nat → Nat) × (Nat × Nat) × Int32) := obG (m_Reader_readEnd n g i a) (fun i_2 a_3 g_4 r_6 => if ((i_2 26)) = ((0 : Int32)) then m_Reader_read_b177 n i_2 a_3 g_4 else ob1 (upd i_2 8 v2 : Nat → Int32) (fun i_12 => m_Reader_read_b177 n i_12 a_3 g_4))
set_option maxHeartbeats 4000000 in
set_option maxRecDepth 100000 in
theorem lb_Reader_read_158 (l : Launch) (dC : Nat → ClassId) (dI : Nat → Nat → Nat) (cI : ClassId) (adK adV adA u : Nat → Nat) (n : Nat) {p : Program} {e : Env} {s : State} {m : MethodId} {args : Array Value} {below : List Frame} {meth : Method} {c : Code} {A : Nat → Prop} (hx : p.tables.exec = Jvm.exec) (hb : c.code = b_Reader_read) (hml : c.maxLocals = 8) (hown : s.vm.findClass R_Reader = some m.cls) (hts : ∀ w ∈ w_Reader_read, w.before args s = true) (hK : va_K (dC, dI) classes [(cI, .int)] s) (hE : tw_E adK adV adA A s s.heap) (hA : ∀ q : Nat, s.heap.size ≤ q → A q) (hr : meth.sig.returnType = (some .boolean)) (hlocks : meth.locks = false) {mc ms : Nat} {i2 : Nat → Int32} {a2 : Nat → Nat → Int32} {g2 : Nat → Nat} {r2 : Int32} (i : Nat → Int32) (a : Nat → Nat → Int32) (g : Nat → Nat) (v2 : Int32) (k2 : Nat × Nat) (hm : m_Reader_read_b158 n i a g v2 = some (i2, a2, g2, k2, r2)) : ∀ (o : Nat → Nat) (kc ks : Nat), kc + k2.1 = mc → ks + k2.2 = ms → ∀ (H : Heap) (locs : List Loc) (ls : Array Slot), va_P (dC, dI) classes (TW cI u o i a g) H → va_D A (TW cI u o i a g) → va_S A s.heap H locs → lv_has ls 8 [(0, .ref ((u 7))), (2, .int v2)] → W p l e ({ frames := 8, cells := mc, slots := ms, locals := 200 } : Room) s m args below meth c H locs kc ks (MQ below (va_Qi (xRg r2) (xBg dC dI cI u g2 i2 a2 A) A) args s mc ms A) (F0 m 158 ls []) := by
  have htt : ∀ w ∈ tw_T, w.before _ s = true := fun w h => hts w (List.mem_cons_of_mem _ h)
  intro o kc ks hkc hks H locs ls hP hD hS hl
  rw [m_Reader_read_b158] at hm
  refine lv_aload_n hx hb d_Reader_read_158 rfl (lv_at hl 0 rfl) ?_
  obtain ⟨i_2, a_3, g_4, k_5, r_6, k_7, h_1, hm, e7, e8⟩ := obG_some hm
  have hFc := x_free hD hS hA
  refine xg_callv (va_runV (As := []) (rest := []) ⟨hx, hb, hml, hown, hts⟩ (x_Reader_readEnd l dC dI cI adK adV adA u o g H.size n h_1) (cwV 0 hts (tw_GV tw_cons cw_Reader_readEnd lk_Reader_65 in_Reader_readEnd sel_Reader_readEnd ini_Reader) rfl rfl rfl ⟨rfl, hd_Reader_readEnd⟩ ⟨Nat.le_of_ble_eq_true rfl, Nat.le_of_ble_eq_true rfl⟩) (xpV hK hP hD hS hE hFc xo_7 rfl) rfl rfl hl.1 rfl (lv_room (Nat.le_of_ble_eq_true rfl)) d_Reader_read_159 ⟨show kc + k_5.1 ≤ mc by omega, show ks + k_5.2 ≤ ms by omega⟩) hS (fun q _ h => hFc q h) hFc (fun kc_9 ks_10 o_8 t9 H locs ekc eks ht hvm e9 hB hz1 hk1 hS => ?_)
  replace hkc : kc_9 + k_7.1 = mc := by omega
  replace hks : ks_10 + k_7.2 = ms := by omega
  clear e7 e8
  clear ekc eks
  obtain ⟨hP, hD⟩ := x_aftg hB ht hFc
  clear hFc hk1 hz1 hvm hB ht
  refine lv_aload_n hx hb d_Reader_read_162 rfl (lv_at hl 0 rfl) ?_
  refine va_get (D := (dC, dI)) (ci := 7) (v := .int (i_2 26)) (C := R_Reader) (T := F_Reader) (N := 19) hx hb htt iw_Reader hown hK hP 7 xo_7 rfl 5 (Nat.le_of_ble_eq_true rfl) (htt _ lk_Reader_51) (fun _ h9 => h9) xg_7_5 d_Reader_read_163 ?_
  refine lv_if_eq (tgt := 177) hx hb d_Reader_read_166 (by decide) (fun c_11 => ?_) (fun c_11 => ?_)
  · replace hm := if_t c_11 hm
    exact lb_Reader_read_177 l dC dI cI adK adV adA u n hx hb hml hown hts hK hE hA hr hlocks _ _ _ _ hm o_8 kc_9 ks_10 hkc hks _ _ _ hP hD hS (lv_sub hl [0] rfl)
  · replace hm := if_f c_11 hm
    refine lv_aload_n hx hb d_Reader_read_169 rfl (lv_at hl 0 rfl) ?_
    refine va_get (D := (dC, dI)) (ci := 7) (v := .ref ((u 1))) (C := R_Reader) (T := F_Reader) (N := 19) hx hb htt iw_Reader hown hK hP 7 xo_7 rfl 0 (Nat.le_of_ble_eq_true rfl) (htt _ lk_Reader_30) (fun _ h9 => h9) xg_7_0 d_Reader_read_170 ?_
    refine lv_iload_n hx hb d_Reader_read_173 rfl (lv_at hl 1 rfl) ?_
    refine va_put (D := (dC, dI)) (ci := 1) (v := .int v2) (ty := .int) (C := R_Heap) (T := F_Heap) (N := 12) hx hb htt iw_Heap t_Heap t_Heap_ok n_Heap hown hK hP hD hS 1 xo_1 rfl 7 (Nat.le_of_ble_eq_true rfl) (htt _ lk_Reader_42) (fun _ h9 => h9) rfl (by decide +kernel) rfl rfl xl_1_7 d_Reader_read_174 (fun H locs hP hD hS => ?_)
    obtain ⟨i_12, ei_12⟩ : ∃ y9 : Nat → Int32, y9 = upd i_2 8 v2 := ⟨_, rfl⟩
    replace hm := ob1_at ei_12 hm
    obtain ⟨hP, hD⟩ := xw_8 ei_12 hP hD
    exact lb_Reader_read_177 l dC dI cI adK adV adA u n hx hb hml hown hts hK hE hA hr hlocks _ _ _ _ hm o_8 kc_9 ks_10 hkc hks _ _ _ hP hD hS (lv_sub hl [0] rfl)
def m_Reader_read_b148 (n : Nat) (rc_21 : (Nat → Int32) → (Nat → Nat → Int32) → (Nat → Nat) → Int32 → Int32 → Int32 → Int32 → Option ((Nat → Int32) × (Nat → Nat → Int32) × (Nat → Nat) × (Nat × Nat) × Int32)) (i : Nat → Int32) (a : Nat → Nat → Int32) (g : Nat → Nat) (v2 : Int32) (v3 : Int32) (v5 : Int32) (v7 : Int32) : Option ((Nat → Int32) × (Nat → Nat → Int32) × (Nat → Nat) × (Nat × Nat) × Int32) := ob1 (v5 + 1 : Int32) (fun x_1 => rc_21 i a g v2 v3 v7 x_1)
set_option maxHeartbeats 4000000 in
set_option maxRecDepth 100000 in
theorem lb_Reader_read_148 (l : Launch) (dC : Nat → ClassId) (dI : Nat → Nat → Nat) (cI : ClassId) (adK adV adA u : Nat → Nat) (n : Nat) {p : Program} {e : Env} {s : State} {m : MethodId} {args : Array Value} {below : List Frame} {meth : Method} {c : Code} {A : Nat → Prop} (hx : p.tables.exec = Jvm.exec) (hb : c.code = b_Reader_read) (hml : c.maxLocals = 8) (hown : s.vm.findClass R_Reader = some m.cls) (hts : ∀ w ∈ w_Reader_read, w.before args s = true) (hK : va_K (dC, dI) classes [(cI, .int)] s) (hE : tw_E adK adV adA A s s.heap) (hA : ∀ q : Nat, s.heap.size ≤ q → A q) (hr : meth.sig.returnType = (some .boolean)) (hlocks : meth.locks = false) {mc ms : Nat} {i2 : Nat → Int32} {a2 : Nat → Nat → Int32} {g2 : Nat → Nat} {r2 : Int32} (rc_21 : (Nat → Int32) → (Nat → Nat → Int32) → (Nat → Nat) → Int32 → Int32 → Int32 → Int32 → Option ((Nat → Int32) × (Nat → Nat → Int32) × (Nat → Nat) × (Nat × Nat) × Int32)) (Hrc_21 : ∀ (i : Nat → Int32) (a : Nat → Nat → Int32) (g : Nat → Nat) (v2 : Int32) (v3 : Int32) (v4 : Int32) (v5 : Int32) (k2 : Nat × Nat), rc_21 i a g v2 v3 v4 v5 = some (i2, a2, g2, k2, r2) → ∀ (o : Nat → Nat) (kc ks : Nat), kc + k2.1 = mc → ks + k2.2 = ms → ∀ (H : Heap) (locs : List Loc) (ls : Array Slot), va_P (dC, dI) classes (TW cI u o i a g) H → va_D A (TW cI u o i a g) → va_S A s.heap H locs → lv_has ls 8 [(0, .ref ((u 7))), (2, .int v2), (3, .int v3), (4, .int v4), (5, .int v5)] → W p l e ({ frames := 8, cells := mc, slots := ms, locals := 200 } : Room) s m args below meth c H locs kc ks (MQ below (va_Qi (xRg r2) (xBg dC dI cI u g2 i2 a2 A) A) args s mc ms A) (F0 m 21 ls [])) (i : Nat → Int32) (a : Nat → Nat → Int32) (g : Nat → Nat) (v2 : Int32) (v3 : Int32) (v5 : Int32) (v7 : Int32) (k2 : Nat × Nat) (hm : m_Reader_read_b148 n rc_21 i a g v2 v3 v5 v7 = some (i2, a2, g2, k2, r2)) : ∀ (o : Nat → Nat) (kc ks : Nat), kc + k2.1 = mc → ks + k2.2 = ms → ∀ (H : Heap) (locs : List Loc) (ls : Array Slot), va_P (dC, dI) classes (TW cI u o i a g) H → va_D A (TW cI u o i a g) → va_S A s.heap H locs → lv_has ls 8 [(0, .ref ((u 7))), (2, .int v2), (3, .int v3), (5, .int v5), (7, .int v7)] → W p l e ({ frames := 8, cells := mc, slots := ms, locals := 200 } : Room) s m args below meth c H locs kc ks (MQ below (va_Qi (xRg r2) (xBg dC dI cI u g2 i2 a2 A) A) args s mc ms A) (F0 m 148 ls []) := by
  have htt : ∀ w ∈ tw_T, w.before _ s = true := fun w h => hts w (List.mem_cons_of_mem _ h)
  intro o kc ks hkc hks H locs ls hP hD hS hl
  rw [m_Reader_read_b148] at hm
  refine lv_iload hx hb d_Reader_read_148 (lv_at hl 4 rfl) ?_
  refine lv_istore (lv' := [(4, .int v7), (0, .ref ((u 7))), (2, .int v2), (3, .int v3), (5, .int v5), (7, .int v7)]) hx hb d_Reader_read_150 hl (by decide) rfl (fun ls hl => ?_)
  obtain ⟨x_1, ex_1⟩ : ∃ y9 : Int32, y9 = v5 + 1 := ⟨_, rfl⟩
  replace hm := ob1_at ex_1 hm
  refine lv_iinc (v := x_1) (lv' := [(5, .int x_1), (4, .int v7), (0, .ref ((u 7))), (2, .int v2), (3, .int v3), (7, .int v7)]) hx hb d_Reader_read_152 hl (k := 4) rfl (by rw [ex_1]; rfl) (by decide) rfl (fun ls hl => ?_)
  refine lv_goto (tgt := 21) hx hb d_Reader_read_155 (by decide) ?_
  exact Hrc_21 _ _ _ _ _ _ _ _ hm o kc ks hkc hks _ _ _ hP hD hS (lv_sub hl [2, 3, 4, 1, 0] rfl)
def m_Reader_read_b114 (n : Nat) (rc_21 : (Nat → Int32) → (Nat → Nat → Int32) → (Nat → Nat) → Int32 → Int32 → Int32 → Int32 → Option ((Nat → Int32) × (Nat → Nat → Int32) × (Nat → Nat) × (Nat × Nat) × Int32)) (i : Nat → Int32) (a : Nat → Nat → Int32) (g : Nat → Nat) (v2 : Int32) (v5 : Int32) (v7 : Int32) (s0 : Int32) : Option ((Nat → Int32) × (Nat → Nat → Int32) × (Nat → Nat) × (Nat × Nat) × Int32) := m_Reader_read_b148 n rc_21 i a g v2 s0 v5 v7
set_option maxHeartbeats 4000000 in
set_option maxRecDepth 100000 in
theorem lb_Reader_read_114 (l : Launch) (dC : Nat → ClassId) (dI : Nat → Nat → Nat) (cI : ClassId) (adK adV adA u : Nat → Nat) (n : Nat) {p : Program} {e : Env} {s : State} {m : MethodId} {args : Array Value} {below : List Frame} {meth : Method} {c : Code} {A : Nat → Prop} (hx : p.tables.exec = Jvm.exec) (hb : c.code = b_Reader_read) (hml : c.maxLocals = 8) (hown : s.vm.findClass R_Reader = some m.cls) (hts : ∀ w ∈ w_Reader_read, w.before args s = true) (hK : va_K (dC, dI) classes [(cI, .int)] s) (hE : tw_E adK adV adA A s s.heap) (hA : ∀ q : Nat, s.heap.size ≤ q → A q) (hr : meth.sig.returnType = (some .boolean)) (hlocks : meth.locks = false) {mc ms : Nat} {i2 : Nat → Int32} {a2 : Nat → Nat → Int32} {g2 : Nat → Nat} {r2 : Int32} (rc_21 : (Nat → Int32) → (Nat → Nat → Int32) → (Nat → Nat) → Int32 → Int32 → Int32 → Int32 → Option ((Nat → Int32) × (Nat → Nat → Int32) × (Nat → Nat) × (Nat × Nat) × Int32)) (Hrc_21 : ∀ (i : Nat → Int32) (a : Nat → Nat → Int32) (g : Nat → Nat) (v2 : Int32) (v3 : Int32) (v4 : Int32) (v5 : Int32) (k2 : Nat × Nat), rc_21 i a g v2 v3 v4 v5 = some (i2, a2, g2, k2, r2) → ∀ (o : Nat → Nat) (kc ks : Nat), kc + k2.1 = mc → ks + k2.2 = ms → ∀ (H : Heap) (locs : List Loc) (ls : Array Slot), va_P (dC, dI) classes (TW cI u o i a g) H → va_D A (TW cI u o i a g) → va_S A s.heap H locs → lv_has ls 8 [(0, .ref ((u 7))), (2, .int v2), (3, .int v3), (4, .int v4), (5, .int v5)] → W p l e ({ frames := 8, cells := mc, slots := ms, locals := 200 } : Room) s m args below meth c H locs kc ks (MQ below (va_Qi (xRg r2) (xBg dC dI cI u g2 i2 a2 A) A) args s mc ms A) (F0 m 21 ls [])) (i : Nat → Int32) (a : Nat → Nat → Int32) (g : Nat → Nat) (v2 : Int32) (v5 : Int32) (v7 : Int32) (s0 : Int32) (k2 : Nat × Nat) (hm : m_Reader_read_b114 n rc_21 i a g v2 v5 v7 s0 = some (i2, a2, g2, k2, r2)) : ∀ (o : Nat → Nat) (kc ks : Nat), kc + k2.1 = mc → ks + k2.2 = ms → ∀ (H : Heap) (locs : List Loc) (ls : Array Slot), va_P (dC, dI) classes (TW cI u o i a g) H → va_D A (TW cI u o i a g) → va_S A s.heap H locs → lv_has ls 8 [(0, .ref ((u 7))), (2, .int v2), (5, .int v5), (7, .int v7)] → W p l e ({ frames := 8, cells := mc, slots := ms, locals := 200 } : Room) s m args below meth c H locs kc ks (MQ below (va_Qi (xRg r2) (xBg dC dI cI u g2 i2 a2 A) A) args s mc ms A) (F0 m 114 ls [.int s0]) := by
  have htt : ∀ w ∈ tw_T, w.before _ s = true := fun w h => hts w (List.mem_cons_of_mem _ h)
  intro o kc ks hkc hks H locs ls hP hD hS hl
  rw [m_Reader_read_b114] at hm
  refine lv_istore_n (lv' := [(3, .int s0), (0, .ref ((u 7))), (2, .int v2), (5, .int v5), (7, .int v7)]) hx hb d_Reader_read_114 rfl hl (by decide) rfl (fun ls hl => ?_)
  refine lv_goto (tgt := 148) hx hb d_Reader_read_115 (by decide) ?_
  exact lb_Reader_read_148 l dC dI cI adK adV adA u n hx hb hml hown hts hK hE hA hr hlocks rc_21 Hrc_21 _ _ _ _ _ _ _ _ hm o kc ks hkc hks _ _ _ hP hD hS (lv_sub hl [1, 2, 0, 3, 4] rfl)
def m_Reader_read_b102 (n : Nat) (rc_21 : (Nat → Int32) → (Nat → Nat → Int32) → (Nat → Nat) → Int32 → Int32 → Int32 → Int32 → Option ((Nat → Int32) × (Nat → Nat → Int32) × (Nat → Nat) × (Nat × Nat) × Int32)) (i : Nat → Int32) (a : Nat → Nat → Int32) (g : Nat → Nat) (v2 : Int32) (v5 : Int32) (v6 : Int32) (v7 : Int32) : Option ((Nat → Int32) × (Nat → Nat → Int32) × (Nat → Nat) × (Nat × Nat) × Int32) := if v6 = ((10 : Int32)) then m_Reader_read_b114 n rc_21 i a g v2 v5 v7 (0 : Int32) else m_Reader_read_b114 n rc_21 i a g v2 v5 v7 (1 : Int32)
set_option maxHeartbeats 4000000 in
set_option maxRecDepth 100000 in
theorem lb_Reader_read_102 (l : Launch) (dC : Nat → ClassId) (dI : Nat → Nat → Nat) (cI : ClassId) (adK adV adA u : Nat → Nat) (n : Nat) {p : Program} {e : Env} {s : State} {m : MethodId} {args : Array Value} {below : List Frame} {meth : Method} {c : Code} {A : Nat → Prop} (hx : p.tables.exec = Jvm.exec) (hb : c.code = b_Reader_read) (hml : c.maxLocals = 8) (hown : s.vm.findClass R_Reader = some m.cls) (hts : ∀ w ∈ w_Reader_read, w.before args s = true) (hK : va_K (dC, dI) classes [(cI, .int)] s) (hE : tw_E adK adV adA A s s.heap) (hA : ∀ q : Nat, s.heap.size ≤ q → A q) (hr : meth.sig.returnType = (some .boolean)) (hlocks : meth.locks = false) {mc ms : Nat} {i2 : Nat → Int32} {a2 : Nat → Nat → Int32} {g2 : Nat → Nat} {r2 : Int32} (rc_21 : (Nat → Int32) → (Nat → Nat → Int32) → (Nat → Nat) → Int32 → Int32 → Int32 → Int32 → Option ((Nat → Int32) × (Nat → Nat → Int32) × (Nat → Nat) × (Nat × Nat) × Int32)) (Hrc_21 : ∀ (i : Nat → Int32) (a : Nat → Nat → Int32) (g : Nat → Nat) (v2 : Int32) (v3 : Int32) (v4 : Int32) (v5 : Int32) (k2 : Nat × Nat), rc_21 i a g v2 v3 v4 v5 = some (i2, a2, g2, k2, r2) → ∀ (o : Nat → Nat) (kc ks : Nat), kc + k2.1 = mc → ks + k2.2 = ms → ∀ (H : Heap) (locs : List Loc) (ls : Array Slot), va_P (dC, dI) classes (TW cI u o i a g) H → va_D A (TW cI u o i a g) → va_S A s.heap H locs → lv_has ls 8 [(0, .ref ((u 7))), (2, .int v2), (3, .int v3), (4, .int v4), (5, .int v5)] → W p l e ({ frames := 8, cells := mc, slots := ms, locals := 200 } : Room) s m args below meth c H locs kc ks (MQ below (va_Qi (xRg r2) (xBg dC dI cI u g2 i2 a2 A) A) args s mc ms A) (F0 m 21 ls [])) (i : Nat → Int32) (a : Nat → Nat → Int32) (g : Nat → Nat) (v2 : Int32) (v5 : Int32) (v6 : Int32) (v7 : Int32) (k2 : Nat × Nat) (hm : m_Reader_read_b102 n rc_21 i a g v2 v5 v6 v7 = some (i2, a2, g2, k2, r2)) : ∀ (o : Nat → Nat) (kc ks : Nat), kc + k2.1 = mc → ks + k2.2 = ms → ∀ (H : Heap) (locs : List Loc) (ls : Array Slot), va_P (dC, dI) classes (TW cI u o i a g) H → va_D A (TW cI u o i a g) → va_S A s.heap H locs → lv_has ls 8 [(0, .ref ((u 7))), (2, .int v2), (5, .int v5), (6, .int v6), (7, .int v7)] → W p l e ({ frames := 8, cells := mc, slots := ms, locals := 200 } : Room) s m args below meth c H locs kc ks (MQ below (va_Qi (xRg r2) (xBg dC dI cI u g2 i2 a2 A) A) args s mc ms A) (F0 m 102 ls []) := by
  have htt : ∀ w ∈ tw_T, w.before _ s = true := fun w h => hts w (List.mem_cons_of_mem _ h)
  intro o kc ks hkc hks H locs ls hP hD hS hl
  rw [m_Reader_read_b102] at hm
  refine lv_iload hx hb d_Reader_read_102 (lv_at hl 3 rfl) ?_
  refine lv_bipush (v := 10) hx hb d_Reader_read_104 (by decide) ?_
  refine lv_icmp_eq (tgt := 113) hx hb d_Reader_read_106 (by decide) (fun c_1 => ?_) (fun c_1 => ?_)
  · replace hm := if_t c_1 hm
    refine lv_iconst (v := 0) hx hb d_Reader_read_113 (by decide) ?_
    exact lb_Reader_read_114 l dC dI cI adK adV adA u n hx hb hml hown hts hK hE hA hr hlocks rc_21 Hrc_21 _ _ _ _ _ _ _ _ hm o kc ks hkc hks _ _ _ hP hD hS (lv_sub hl [0, 1, 2, 4] rfl)
  · replace hm := if_f c_1 hm
    refine lv_iconst (v := 1) hx hb d_Reader_read_109 (by decide) ?_
    refine lv_goto (tgt := 114) hx hb d_Reader_read_110 (by decide) ?_
    exact lb_Reader_read_114 l dC dI cI adK adV adA u n hx hb hml hown hts hK hE hA hr hlocks rc_21 Hrc_21 _ _ _ _ _ _ _ _ hm o kc ks hkc hks _ _ _ hP hD hS (lv_sub hl [0, 1, 2, 4] rfl)
def m_Reader_read_b91 (n : Nat) (rc_21 : (Nat → Int32) → (Nat → Nat → Int32) → (Nat → Nat) → Int32 → Int32 → Int32 → Int32 → Option ((Nat → Int32) × (Nat → Nat → Int32) × (Nat → Nat) × (Nat × Nat) × Int32)) (i : Nat → Int32) (a : Nat → Nat → Int32) (g : Nat → Nat) (v2 : Int32) (v3 : Int32) (v4 : Int32) (v5 : Int32) (v6 : Int32) (v7 : Int32) : Option ((Nat → Int32) × (Nat → Nat → Int32) × (Nat → Nat) × (Nat × Nat) × Int32) := if v3 = ((0 : Int32)) then if v6 = ((59 : Int32)) then m_Reader_read_b102 n rc_21 i a g v2 v5 v6 v7 else if v6 = ((10 : Int32)) then m_Reader_read_b148 n rc_21 i a g v2 v3 v5 v7 else if v6 = ((32 : Int32)) then m_Reader_read_b148 n rc_21 i a g v2 v3 v5 v7 else ob0 (m_Reader_tokenEnd n g i a v4) (fun r_6 => obG (m_Reader_readToken n g i a v4 r_6) (fun i_10 a_11 g_12 r_14 => m_Reader_read_b148 n rc_21 i_10 a_11 g_12 v2 v3 v5 r_6)) else m_Reader_read_b102 n rc_21 i a g v2 v5 v6 v7
set_option maxHeartbeats 4000000 in
set_option maxRecDepth 100000 in
theorem lb_Reader_read_91 (l : Launch) (dC : Nat → ClassId) (dI : Nat → Nat → Nat) (cI : ClassId) (adK adV adA u : Nat → Nat) (n : Nat) {p : Program} {e : Env} {s : State} {m : MethodId} {args : Array Value} {below : List Frame} {meth : Method} {c : Code} {A : Nat → Prop} (hx : p.tables.exec = Jvm.exec) (hb : c.code = b_Reader_read) (hml : c.maxLocals = 8) (hown : s.vm.findClass R_Reader = some m.cls) (hts : ∀ w ∈ w_Reader_read, w.before args s = true) (hK : va_K (dC, dI) classes [(cI, .int)] s) (hE : tw_E adK adV adA A s s.heap) (hA : ∀ q : Nat, s.heap.size ≤ q → A q) (hr : meth.sig.returnType = (some .boolean)) (hlocks : meth.locks = false) {mc ms : Nat} {i2 : Nat → Int32} {a2 : Nat → Nat → Int32} {g2 : Nat → Nat} {r2 : Int32} (rc_21 : (Nat → Int32) → (Nat → Nat → Int32) → (Nat → Nat) → Int32 → Int32 → Int32 → Int32 → Option ((Nat → Int32) × (Nat → Nat → Int32) × (Nat → Nat) × (Nat × Nat) × Int32)) (Hrc_21 : ∀ (i : Nat → Int32) (a : Nat → Nat → Int32) (g : Nat → Nat) (v2 : Int32) (v3 : Int32) (v4 : Int32) (v5 : Int32) (k2 : Nat × Nat), rc_21 i a g v2 v3 v4 v5 = some (i2, a2, g2, k2, r2) → ∀ (o : Nat → Nat) (kc ks : Nat), kc + k2.1 = mc → ks + k2.2 = ms → ∀ (H : Heap) (locs : List Loc) (ls : Array Slot), va_P (dC, dI) classes (TW cI u o i a g) H → va_D A (TW cI u o i a g) → va_S A s.heap H locs → lv_has ls 8 [(0, .ref ((u 7))), (2, .int v2), (3, .int v3), (4, .int v4), (5, .int v5)] → W p l e ({ frames := 8, cells := mc, slots := ms, locals := 200 } : Room) s m args below meth c H locs kc ks (MQ below (va_Qi (xRg r2) (xBg dC dI cI u g2 i2 a2 A) A) args s mc ms A) (F0 m 21 ls [])) (i : Nat → Int32) (a : Nat → Nat → Int32) (g : Nat → Nat) (v2 : Int32) (v3 : Int32) (v4 : Int32) (v5 : Int32) (v6 : Int32) (v7 : Int32) (k2 : Nat × Nat) (hm : m_Reader_read_b91 n rc_21 i a g v2 v3 v4 v5 v6 v7 = some (i2, a2, g2, k2, r2)) : ∀ (o : Nat → Nat) (kc ks : Nat), kc + k2.1 = mc → ks + k2.2 = ms → ∀ (H : Heap) (locs : List Loc) (ls : Array Slot), va_P (dC, dI) classes (TW cI u o i a g) H → va_D A (TW cI u o i a g) → va_S A s.heap H locs → lv_has ls 8 [(0, .ref ((u 7))), (2, .int v2), (3, .int v3), (4, .int v4), (5, .int v5), (6, .int v6), (7, .int v7)] → W p l e ({ frames := 8, cells := mc, slots := ms, locals := 200 } : Room) s m args below meth c H locs kc ks (MQ below (va_Qi (xRg r2) (xBg dC dI cI u g2 i2 a2 A) A) args s mc ms A) (F0 m 91 ls []) := by
  have htt : ∀ w ∈ tw_T, w.before _ s = true := fun w h => hts w (List.mem_cons_of_mem _ h)
  intro o kc ks hkc hks H locs ls hP hD hS hl
  rw [m_Reader_read_b91] at hm
  refine lv_iload_n hx hb d_Reader_read_91 rfl (lv_at hl 2 rfl) ?_
  refine lv_if_ne (tgt := 102) hx hb d_Reader_read_92 (by decide) (fun c_1 => ?_) (fun c_1 => ?_)
  · replace hm := if_f c_1 hm
    exact lb_Reader_read_102 l dC dI cI adK adV adA u n hx hb hml hown hts hK hE hA hr hlocks rc_21 Hrc_21 _ _ _ _ _ _ _ _ hm o kc ks hkc hks _ _ _ hP hD hS (lv_sub hl [0, 1, 4, 5, 6] rfl)
  · replace hm := if_t c_1 hm
    refine lv_iload hx hb d_Reader_read_95 (lv_at hl 5 rfl) ?_
    refine lv_bipush (v := 59) hx hb d_Reader_read_97 (by decide) ?_
    refine lv_icmp_ne (tgt := 118) hx hb d_Reader_read_99 (by decide) (fun c_2 => ?_) (fun c_2 => ?_)
    · replace hm := if_f c_2 hm
      refine lv_iload hx hb d_Reader_read_118 (lv_at hl 5 rfl) ?_
      refine lv_bipush (v := 10) hx hb d_Reader_read_120 (by decide) ?_
      refine lv_icmp_eq (tgt := 148) hx hb d_Reader_read_122 (by decide) (fun c_3 => ?_) (fun c_3 => ?_)
      · replace hm := if_t c_3 hm
        exact lb_Reader_read_148 l dC dI cI adK adV adA u n hx hb hml hown hts hK hE hA hr hlocks rc_21 Hrc_21 _ _ _ _ _ _ _ _ hm o kc ks hkc hks _ _ _ hP hD hS (lv_sub hl [0, 1, 2, 4, 6] rfl)
      · replace hm := if_f c_3 hm
        refine lv_iload hx hb d_Reader_read_125 (lv_at hl 5 rfl) ?_
        refine lv_bipush (v := 32) hx hb d_Reader_read_127 (by decide) ?_
        refine lv_icmp_eq (tgt := 148) hx hb d_Reader_read_129 (by decide) (fun c_4 => ?_) (fun c_4 => ?_)
        · replace hm := if_t c_4 hm
          exact lb_Reader_read_148 l dC dI cI adK adV adA u n hx hb hml hown hts hK hE hA hr hlocks rc_21 Hrc_21 _ _ _ _ _ _ _ _ hm o kc ks hkc hks _ _ _ hP hD hS (lv_sub hl [0, 1, 2, 4, 6] rfl)
        · replace hm := if_f c_4 hm
          refine lv_aload_n hx hb d_Reader_read_132 rfl (lv_at hl 0 rfl) ?_
          refine lv_iload hx hb d_Reader_read_133 (lv_at hl 3 rfl) ?_
          obtain ⟨r_6, h_5, hm⟩ := ob0_some hm
          have hFc := x_free0 hS hA
          refine xg_calli (va_runV (As := [.int v4]) (rest := []) ⟨hx, hb, hml, hown, hts⟩ (x_Reader_tokenEnd l dC dI cI adK adV adA u o g H.size n h_5) (cwV 1 hts (tw_GV tw_cons cw_Reader_tokenEnd lk_Reader_58 in_Reader_tokenEnd sel_Reader_tokenEnd ini_Reader) rfl rfl rfl ⟨rfl, hd_Reader_tokenEnd⟩ ⟨Nat.le_of_ble_eq_true rfl, Nat.le_of_ble_eq_true rfl⟩) (xpVr hK hP hS hE hFc xo_7 rfl) rfl rfl hl.1 rfl (lv_room (Nat.le_of_ble_eq_true rfl)) d_Reader_read_135 ⟨show kc + 0 ≤ mc by omega, show ks + 0 ≤ ms by omega⟩) hS (fun q _ h => hFc q h) hFc (fun kc_7 ks_8 r9 u9 t9 H locs ekc eks ht hvm e9 hB hz1 hk1 hS => ?_)
          replace hkc : kc_7 + k2.1 = mc := by omega
          replace hks : ks_8 + k2.2 = ms := by omega
          clear ekc eks
          have e9 : r_6 = r9 := e9
          subst e9
          replace hP := x_keep hP hk1
          clear hFc hk1 hz1 hvm hB ht
          refine lv_istore (lv' := [(7, .int r_6), (0, .ref ((u 7))), (2, .int v2), (3, .int v3), (4, .int v4), (5, .int v5), (6, .int v6)]) hx hb d_Reader_read_138 hl (by decide) rfl (fun ls hl => ?_)
          refine lv_aload_n hx hb d_Reader_read_140 rfl (lv_at hl 1 rfl) ?_
          refine lv_iload hx hb d_Reader_read_141 (lv_at hl 4 rfl) ?_
          refine lv_iload hx hb d_Reader_read_143 (lv_at hl 0 rfl) ?_
          obtain ⟨i_10, a_11, g_12, k_13, r_14, k_15, h_9, hm, e7, e8⟩ := obG_some hm
          have hFc := x_free hD hS hA
          refine xg_callv (va_runV (As := [.int v4, .int r_6]) (rest := []) ⟨hx, hb, hml, hown, hts⟩ (x_Reader_readToken l dC dI cI adK adV adA u o g H.size n h_9) (cwV 2 hts (tw_GV tw_cons cw_Reader_readToken lk_Reader_62 in_Reader_readToken sel_Reader_readToken ini_Reader) rfl rfl rfl ⟨rfl, hd_Reader_readToken⟩ ⟨Nat.le_of_ble_eq_true rfl, Nat.le_of_ble_eq_true rfl⟩) (xpV hK hP hD hS hE hFc xo_7 rfl) rfl rfl hl.1 rfl (lv_room (Nat.le_of_ble_eq_true rfl)) d_Reader_read_145 ⟨show kc_7 + k_13.1 ≤ mc by omega, show ks_8 + k_13.2 ≤ ms by omega⟩) hS (fun q _ h => hFc q h) hFc (fun kc_17 ks_18 o_16 t9 H locs ekc eks ht hvm e9 hB hz1 hk1 hS => ?_)
          replace hkc : kc_17 + k_15.1 = mc := by omega
          replace hks : ks_18 + k_15.2 = ms := by omega
          clear e7 e8
          clear ekc eks
          obtain ⟨hP, hD⟩ := x_aftg hB ht hFc
          clear hFc hk1 hz1 hvm hB ht
          exact lb_Reader_read_148 l dC dI cI adK adV adA u n hx hb hml hown hts hK hE hA hr hlocks rc_21 Hrc_21 _ _ _ _ _ _ _ _ hm o_16 kc_17 ks_18 hkc hks _ _ _ hP hD hS (lv_sub hl [1, 2, 3, 5, 0] rfl)
    · replace hm := if_t c_2 hm
      exact lb_Reader_read_102 l dC dI cI adK adV adA u n hx hb hml hown hts hK hE hA hr hlocks rc_21 Hrc_21 _ _ _ _ _ _ _ _ hm o kc ks hkc hks _ _ _ hP hD hS (lv_sub hl [0, 1, 4, 5, 6] rfl)
def m_Reader_read_b81 (n : Nat) (rc_21 : (Nat → Int32) → (Nat → Nat → Int32) → (Nat → Nat) → Int32 → Int32 → Int32 → Int32 → Option ((Nat → Int32) × (Nat → Nat → Int32) × (Nat → Nat) × (Nat × Nat) × Int32)) (i : Nat → Int32) (a : Nat → Nat → Int32) (g : Nat → Nat) (v2 : Int32) (v3 : Int32) (v4 : Int32) (v5 : Int32) (v7 : Int32) : Option ((Nat → Int32) × (Nat → Nat → Int32) × (Nat → Nat) × (Nat × Nat) × Int32) := ob (m_Reader_blame n g i a (1 : Int32) v4) (fun i_2 a_3 r_4 => m_Reader_read_b148 n rc_21 i_2 a_3 g v2 v3 v5 v7)
set_option maxHeartbeats 4000000 in
set_option maxRecDepth 100000 in
theorem lb_Reader_read_81 (l : Launch) (dC : Nat → ClassId) (dI : Nat → Nat → Nat) (cI : ClassId) (adK adV adA u : Nat → Nat) (n : Nat) {p : Program} {e : Env} {s : State} {m : MethodId} {args : Array Value} {below : List Frame} {meth : Method} {c : Code} {A : Nat → Prop} (hx : p.tables.exec = Jvm.exec) (hb : c.code = b_Reader_read) (hml : c.maxLocals = 8) (hown : s.vm.findClass R_Reader = some m.cls) (hts : ∀ w ∈ w_Reader_read, w.before args s = true) (hK : va_K (dC, dI) classes [(cI, .int)] s) (hE : tw_E adK adV adA A s s.heap) (hA : ∀ q : Nat, s.heap.size ≤ q → A q) (hr : meth.sig.returnType = (some .boolean)) (hlocks : meth.locks = false) {mc ms : Nat} {i2 : Nat → Int32} {a2 : Nat → Nat → Int32} {g2 : Nat → Nat} {r2 : Int32} (rc_21 : (Nat → Int32) → (Nat → Nat → Int32) → (Nat → Nat) → Int32 → Int32 → Int32 → Int32 → Option ((Nat → Int32) × (Nat → Nat → Int32) × (Nat → Nat) × (Nat × Nat) × Int32)) (Hrc_21 : ∀ (i : Nat → Int32) (a : Nat → Nat → Int32) (g : Nat → Nat) (v2 : Int32) (v3 : Int32) (v4 : Int32) (v5 : Int32) (k2 : Nat × Nat), rc_21 i a g v2 v3 v4 v5 = some (i2, a2, g2, k2, r2) → ∀ (o : Nat → Nat) (kc ks : Nat), kc + k2.1 = mc → ks + k2.2 = ms → ∀ (H : Heap) (locs : List Loc) (ls : Array Slot), va_P (dC, dI) classes (TW cI u o i a g) H → va_D A (TW cI u o i a g) → va_S A s.heap H locs → lv_has ls 8 [(0, .ref ((u 7))), (2, .int v2), (3, .int v3), (4, .int v4), (5, .int v5)] → W p l e ({ frames := 8, cells := mc, slots := ms, locals := 200 } : Room) s m args below meth c H locs kc ks (MQ below (va_Qi (xRg r2) (xBg dC dI cI u g2 i2 a2 A) A) args s mc ms A) (F0 m 21 ls [])) (i : Nat → Int32) (a : Nat → Nat → Int32) (g : Nat → Nat) (v2 : Int32) (v3 : Int32) (v4 : Int32) (v5 : Int32) (v7 : Int32) (k2 : Nat × Nat) (hm : m_Reader_read_b81 n rc_21 i a g v2 v3 v4 v5 v7 = some (i2, a2, g2, k2, r2)) : ∀ (o : Nat → Nat) (kc ks : Nat), kc + k2.1 = mc → ks + k2.2 = ms → ∀ (H : Heap) (locs : List Loc) (ls : Array Slot), va_P (dC, dI) classes (TW cI u o i a g) H → va_D A (TW cI u o i a g) → va_S A s.heap H locs → lv_has ls 8 [(0, .ref ((u 7))), (2, .int v2), (3, .int v3), (4, .int v4), (5, .int v5), (7, .int v7)] → W p l e ({ frames := 8, cells := mc, slots := ms, locals := 200 } : Room) s m args below meth c H locs kc ks (MQ below (va_Qi (xRg r2) (xBg dC dI cI u g2 i2 a2 A) A) args s mc ms A) (F0 m 81 ls []) := by
  have htt : ∀ w ∈ tw_T, w.before _ s = true := fun w h => hts w (List.mem_cons_of_mem _ h)
  intro o kc ks hkc hks H locs ls hP hD hS hl
  rw [m_Reader_read_b81] at hm
  refine lv_aload_n hx hb d_Reader_read_81 rfl (lv_at hl 0 rfl) ?_
  refine lv_iconst (v := 1) hx hb d_Reader_read_82 (by decide) ?_
  refine lv_iload hx hb d_Reader_read_83 (lv_at hl 3 rfl) ?_
  obtain ⟨i_2, a_3, r_4, h_1, hm⟩ := ob_some hm
  have hFc := x_free hD hS hA
  refine xg_callv (va_runV (As := [.int 1, .int v4]) (rest := []) ⟨hx, hb, hml, hown, hts⟩ (x_Reader_blame l dC dI cI adK adV adA u o g H.size n h_1) (cwV 2 hts (tw_GV tw_cons cw_Reader_blame lk_Reader_54 in_Reader_blame sel_Reader_blame ini_Reader) rfl rfl rfl ⟨rfl, hd_Reader_blame⟩ ⟨Nat.le_of_ble_eq_true rfl, Nat.le_of_ble_eq_true rfl⟩) (xpV hK hP hD hS hE hFc xo_7 rfl) rfl rfl hl.1 rfl (lv_room (Nat.le_of_ble_eq_true rfl)) d_Reader_read_85 ⟨show kc + 0 ≤ mc by omega, show ks + 0 ≤ ms by omega⟩) hS (fun q _ h => hFc q h) hFc (fun kc_5 ks_6 u9 t9 H locs ekc eks ht hvm e9 hB hz1 hk1 hS => ?_)
  replace hkc : kc_5 + k2.1 = mc := by omega
  replace hks : ks_6 + k2.2 = ms := by omega
  clear ekc eks
  obtain ⟨hP, hD⟩ := x_aft hB ht hFc
  clear hFc hk1 hz1 hvm hB ht
  refine lv_goto (tgt := 148) hx hb d_Reader_read_88 (by decide) ?_
  exact lb_Reader_read_148 l dC dI cI adK adV adA u n hx hb hml hown hts hK hE hA hr hlocks rc_21 Hrc_21 _ _ _ _ _ _ _ _ hm o kc_5 ks_6 hkc hks _ _ _ hP hD hS (lv_sub hl [0, 1, 2, 4, 5] rfl)
def m_Reader_read_b21 (n : Nat) : Nat → (Nat → Int32) → (Nat → Nat → Int32) → (Nat → Nat) → Int32 → Int32 → Int32 → Int32 → Option ((Nat → Int32) × (Nat → Nat → Int32) × (Nat → Nat) × (Nat × Nat) × Int32)
  | 0, _, _, _, _, _, _, _ => none
  | f + 1, i, a, g, v2, v3, v4, v5 => if ((4000 : Int32)) ≤ v5 then m_Reader_read_b158 n i a g v2 else if ((i 24)) ≤ v4 then m_Reader_read_b158 n i a g v2 else if ((i 26)) = ((0 : Int32)) then ck v4 4000 (ob1 (a 31 v4.toNatClampNeg : Int32) (fun x_5 => ob1 (v4 + 1 : Int32) (fun x_6 => if x_5 = ((10 : Int32)) then m_Reader_read_b91 n (m_Reader_read_b21 n f) i a g v2 v3 v4 v5 x_5 x_6 else if x_5 < ((32 : Int32)) then m_Reader_read_b81 n (m_Reader_read_b21 n f) i a g v2 v3 v4 v5 x_6 else if x_5 ≤ ((126 : Int32)) then m_Reader_read_b91 n (m_Reader_read_b21 n f) i a g v2 v3 v4 v5 x_5 x_6 else m_Reader_read_b81 n (m_Reader_read_b21 n f) i a g v2 v3 v4 v5 x_6))) else m_Reader_read_b158 n i a g v2
set_option maxHeartbeats 4000000 in
set_option maxRecDepth 100000 in
theorem lb_Reader_read_21 (l : Launch) (dC : Nat → ClassId) (dI : Nat → Nat → Nat) (cI : ClassId) (adK adV adA u : Nat → Nat) (n : Nat) {p : Program} {e : Env} {s : State} {m : MethodId} {args : Array Value} {below : List Frame} {meth : Method} {c : Code} {A : Nat → Prop} (hx : p.tables.exec = Jvm.exec) (hb : c.code = b_Reader_read) (hml : c.maxLocals = 8) (hown : s.vm.findClass R_Reader = some m.cls) (hts : ∀ w ∈ w_Reader_read, w.before args s = true) (hK : va_K (dC, dI) classes [(cI, .int)] s) (hE : tw_E adK adV adA A s s.heap) (hA : ∀ q : Nat, s.heap.size ≤ q → A q) (hr : meth.sig.returnType = (some .boolean)) (hlocks : meth.locks = false) {mc ms : Nat} {i2 : Nat → Int32} {a2 : Nat → Nat → Int32} {g2 : Nat → Nat} {r2 : Int32} : ∀ (f : Nat) (i : Nat → Int32) (a : Nat → Nat → Int32) (g : Nat → Nat) (v2 : Int32) (v3 : Int32) (v4 : Int32) (v5 : Int32) (k2 : Nat × Nat), m_Reader_read_b21 n f i a g v2 v3 v4 v5 = some (i2, a2, g2, k2, r2) → ∀ (o : Nat → Nat) (kc ks : Nat), kc + k2.1 = mc → ks + k2.2 = ms → ∀ (H : Heap) (locs : List Loc) (ls : Array Slot), va_P (dC, dI) classes (TW cI u o i a g) H → va_D A (TW cI u o i a g) → va_S A s.heap H locs → lv_has ls 8 [(0, .ref ((u 7))), (2, .int v2), (3, .int v3), (4, .int v4), (5, .int v5)] → W p l e ({ frames := 8, cells := mc, slots := ms, locals := 200 } : Room) s m args below meth c H locs kc ks (MQ below (va_Qi (xRg r2) (xBg dC dI cI u g2 i2 a2 A) A) args s mc ms A) (F0 m 21 ls []) := by
  have htt : ∀ w ∈ tw_T, w.before _ s = true := fun w h => hts w (List.mem_cons_of_mem _ h)
  intro f
  induction f with
  | zero =>
    intro i a g v2 v3 v4 v5 k2 hm
    rw [m_Reader_read_b21] at hm
    cases hm
  | succ f ih =>
    intro i a g v2 v3 v4 v5 k2 hm o kc ks hkc hks H locs ls hP hD hS hl
    rw [m_Reader_read_b21] at hm
    refine lv_iload hx hb d_Reader_read_21 (lv_at hl 4 rfl) ?_
    refine lv_sipush (v := 4000) hx hb d_Reader_read_23 (by decide) ?_
    refine lv_icmp_ge (tgt := 158) hx hb d_Reader_read_26 (by decide) (fun c_1 => ?_) (fun c_1 => ?_)
    · replace hm := if_t c_1 hm
      exact lb_Reader_read_158 l dC dI cI adK adV adA u n hx hb hml hown hts hK hE hA hr hlocks _ _ _ _ _ hm o kc ks hkc hks _ _ _ hP hD hS (lv_sub hl [0, 1] rfl)
    · replace hm := if_f c_1 hm
      refine lv_iload hx hb d_Reader_read_29 (lv_at hl 3 rfl) ?_
      refine lv_aload_n hx hb d_Reader_read_31 rfl (lv_at hl 0 rfl) ?_
      refine va_get (D := (dC, dI)) (ci := 7) (v := .int (i 24)) (C := R_Reader) (T := F_Reader) (N := 19) hx hb htt iw_Reader hown hK hP 7 xo_7 rfl 3 (Nat.le_of_ble_eq_true rfl) (htt _ lk_Reader_38) (fun _ h9 => h9) xg_7_3 d_Reader_read_32 ?_
      refine lv_icmp_ge (tgt := 158) hx hb d_Reader_read_35 (by decide) (fun c_2 => ?_) (fun c_2 => ?_)
      · replace hm := if_t c_2 hm
        exact lb_Reader_read_158 l dC dI cI adK adV adA u n hx hb hml hown hts hK hE hA hr hlocks _ _ _ _ _ hm o kc ks hkc hks _ _ _ hP hD hS (lv_sub hl [0, 1] rfl)
      · replace hm := if_f c_2 hm
        refine lv_aload_n hx hb d_Reader_read_38 rfl (lv_at hl 0 rfl) ?_
        refine va_get (D := (dC, dI)) (ci := 7) (v := .int (i 26)) (C := R_Reader) (T := F_Reader) (N := 19) hx hb htt iw_Reader hown hK hP 7 xo_7 rfl 5 (Nat.le_of_ble_eq_true rfl) (htt _ lk_Reader_51) (fun _ h9 => h9) xg_7_5 d_Reader_read_39 ?_
        refine lv_if_ne (tgt := 158) hx hb d_Reader_read_42 (by decide) (fun c_3 => ?_) (fun c_3 => ?_)
        · replace hm := if_f c_3 hm
          exact lb_Reader_read_158 l dC dI cI adK adV adA u n hx hb hml hown hts hK hE hA hr hlocks _ _ _ _ _ hm o kc ks hkc hks _ _ _ hP hD hS (lv_sub hl [0, 1] rfl)
        · replace hm := if_t c_3 hm
          refine lv_aload_n hx hb d_Reader_read_45 rfl (lv_at hl 0 rfl) ?_
          refine va_get (D := (dC, dI)) (ci := 7) (v := .ref ((u 41))) (C := R_Reader) (T := F_Reader) (N := 19) hx hb htt iw_Reader hown hK hP 7 xo_7 rfl 2 (Nat.le_of_ble_eq_true rfl) (htt _ lk_Reader_11) (fun _ h9 => h9) xg_7_2 d_Reader_read_46 ?_
          refine lv_iload hx hb d_Reader_read_49 (lv_at hl 3 rfl) ?_
          obtain ⟨h_4, hm⟩ := ck_some hm
          refine va_iald hx hb hK hP 43 0 twA_31 rfl h_4 d_Reader_read_51 ?_
          refine lv_topi (fun x_5 ex_5 => ?_)
          replace hm := ob1_at ex_5 hm
          refine lv_istore (lv' := [(6, .int x_5), (0, .ref ((u 7))), (2, .int v2), (3, .int v3), (4, .int v4), (5, .int v5)]) hx hb d_Reader_read_52 hl (by decide) rfl (fun ls hl => ?_)
          refine lv_iload hx hb d_Reader_read_54 (lv_at hl 4 rfl) ?_
          refine lv_iconst (v := 1) hx hb d_Reader_read_56 (by decide) ?_
          refine lv_iadd hx hb d_Reader_read_57 ?_
          refine lv_topi (fun x_6 ex_6 => ?_)
          replace hm := ob1_at ex_6 hm
          refine lv_istore (lv' := [(7, .int x_6), (6, .int x_5), (0, .ref ((u 7))), (2, .int v2), (3, .int v3), (4, .int v4), (5, .int v5)]) hx hb d_Reader_read_58 hl (by decide) rfl (fun ls hl => ?_)
          refine lv_iload hx hb d_Reader_read_60 (lv_at hl 1 rfl) ?_
          refine lv_bipush (v := 10) hx hb d_Reader_read_62 (by decide) ?_
          refine lv_icmp_eq (tgt := 91) hx hb d_Reader_read_64 (by decide) (fun c_7 => ?_) (fun c_7 => ?_)
          · replace hm := if_t c_7 hm
            exact lb_Reader_read_91 l dC dI cI adK adV adA u n hx hb hml hown hts hK hE hA hr hlocks (m_Reader_read_b21 n f) ih _ _ _ _ _ _ _ _ _ _ hm o kc ks hkc hks _ _ _ hP hD hS (lv_sub hl [2, 3, 4, 5, 6, 1, 0] rfl)
          · replace hm := if_f c_7 hm
            refine lv_iload hx hb d_Reader_read_67 (lv_at hl 1 rfl) ?_
            refine lv_bipush (v := 32) hx hb d_Reader_read_69 (by decide) ?_
            refine lv_icmp_lt (tgt := 81) hx hb d_Reader_read_71 (by decide) (fun c_8 => ?_) (fun c_8 => ?_)
            · replace hm := if_t c_8 hm
              exact lb_Reader_read_81 l dC dI cI adK adV adA u n hx hb hml hown hts hK hE hA hr hlocks (m_Reader_read_b21 n f) ih _ _ _ _ _ _ _ _ _ hm o kc ks hkc hks _ _ _ hP hD hS (lv_sub hl [2, 3, 4, 5, 6, 0] rfl)
            · replace hm := if_f c_8 hm
              refine lv_iload hx hb d_Reader_read_74 (lv_at hl 1 rfl) ?_
              refine lv_bipush (v := 126) hx hb d_Reader_read_76 (by decide) ?_
              refine lv_icmp_le (tgt := 91) hx hb d_Reader_read_78 (by decide) (fun c_9 => ?_) (fun c_9 => ?_)
              · replace hm := if_t c_9 hm
                exact lb_Reader_read_91 l dC dI cI adK adV adA u n hx hb hml hown hts hK hE hA hr hlocks (m_Reader_read_b21 n f) ih _ _ _ _ _ _ _ _ _ _ hm o kc ks hkc hks _ _ _ hP hD hS (lv_sub hl [2, 3, 4, 5, 6, 1, 0] rfl)
              · replace hm := if_f c_9 hm
                exact lb_Reader_read_81 l dC dI cI adK adV adA u n hx hb hml hown hts hK hE hA hr hlocks (m_Reader_read_b21 n f) ih _ _ _ _ _ _ _ _ _ hm o kc ks hkc hks _ _ _ hP hD hS (lv_sub hl [2, 3, 4, 5, 6, 0] rfl)
def m_Reader_read (n : Nat) (g : Nat → Nat) (i : Nat → Int32) (a : Nat → Nat → Int32) (v1 : Int32) : Option ((Nat → Int32) × (Nat → Nat → Int32) × (Nat → Nat) × (Nat × Nat) × Int32) := ob1 (i 8 : Int32) (fun x_1 => ob (m_Reader_begin n g i a v1) (fun i_3 a_4 r_5 => m_Reader_read_b21 n n i_3 a_4 g x_1 (0 : Int32) (0 : Int32) (0 : Int32)))
set_option maxHeartbeats 4000000 in
set_option maxRecDepth 100000 in
theorem x_Reader_read (l : Launch) (dC : Nat → ClassId) (dI : Nat → Nat → Nat) (cI : ClassId) (adK adV adA u o g : Nat → Nat) (sz : Nat) (n : Nat) {i : Nat → Int32} {a : Nat → Nat → Int32} {v1 : Int32} {i2 : Nat → Int32} {a2 : Nat → Nat → Int32} {g2 : Nat → Nat} {k2 : Nat × Nat} {r2 : Int32} (hm : m_Reader_read n g i a v1 = some (i2, a2, g2, k2, r2)) : Met l y_Reader_read w_Reader_read ({ frames := 8, cells := k2.1, slots := k2.2, locals := 200 } : Room) (va_Pc [.ref ((u 7)), .int v1] (xE dC dI cI adK adV adA u o g i a sz)) (va_Qi (xRg r2) (xBg dC dI cI u g2 i2 a2 (va_A (TW cI u o i a g) sz)) (va_A (TW cI u o i a g) sz)) k2.1 k2.2 ((va_A (TW cI u o i a g) sz)) := by
  refine Met.ofW (cc := b_Reader_read) (maxL := 8) (ret := (some .boolean)) (by decide) rfl ?_
  intro p e s m args below meth c s₁ B hml hv
  obtain ⟨rfl, hsz, hP, hK, hE, hD0⟩ := hv
  have hx := B.exec
  have hb := B.bytes
  have hr := B.returns
  have hts := atoms_spec (ws := w_Reader_read) B.pre
  have htt : ∀ w ∈ tw_T, w.before _ s = true := fun w h => hts w (List.mem_cons_of_mem _ h)
  have hown : s.vm.findClass R_Reader = some m.cls := findClass_of_methodNamed B.named
  have hlocks := B.notSynchronized
  subst hsz
  have hD := hD0.self (sz := s.heap.size)
  generalize hAe : (va_A (TW cI u o i a g) s.heap.size) = A at hD hE ⊢
  have hA : ∀ q : Nat, s.heap.size ≤ q → A q := fun q h => by rw [← hAe]; exact Or.inr h
  have hS : va_S A s.heap s.heap [] := va_S.rf
  obtain ⟨mc, ms, emc, ems⟩ : ∃ mc ms : Nat, k2.1 = mc ∧ k2.2 = ms := ⟨_, _, rfl, rfl⟩
  have hkc : 0 + k2.1 = mc := by rw [Nat.zero_add]; exact emc
  have hks : 0 + k2.2 = ms := by rw [Nat.zero_add]; exact ems
  rw [emc, ems]
  clear emc ems
  have hl := lv_entry ([.ref ((u 7)), .int v1]) (n := 8) (Nat.le_of_ble_eq_true rfl)
  rw [lg_entry_eq]
  generalize (lg_sl ([.ref ((u 7)), .int v1]) ++ List.replicate (8 - (lg_sl ([.ref ((u 7)), .int v1])).length) Slot.unset).toArray = ls at hl ⊢
  have hl : lv_has ls 8 [(0, .ref ((u 7))), (1, .int v1)] := hl
  rw [m_Reader_read] at hm
  refine lv_aload_n hx hb d_Reader_read_0 rfl (lv_at hl 0 rfl) ?_
  refine va_get (D := (dC, dI)) (ci := 7) (v := .ref ((u 1))) (C := R_Reader) (T := F_Reader) (N := 19) hx hb htt iw_Reader hown hK hP 7 xo_7 rfl 0 (Nat.le_of_ble_eq_true rfl) (htt _ lk_Reader_30) (fun _ h9 => h9) xg_7_0 d_Reader_read_1 ?_
  refine va_get (D := (dC, dI)) (ci := 1) (v := .int (i 8)) (C := R_Heap) (T := F_Heap) (N := 12) hx hb htt iw_Heap hown hK hP 1 xo_1 rfl 7 (Nat.le_of_ble_eq_true rfl) (htt _ lk_Reader_42) (fun _ h9 => h9) xg_1_7 d_Reader_read_4 ?_
  refine lv_topi (fun x_1 ex_1 => ?_)
  replace hm := ob1_at ex_1 hm
  refine lv_istore_n (lv' := [(2, .int x_1), (0, .ref ((u 7))), (1, .int v1)]) hx hb d_Reader_read_7 rfl hl (by decide) rfl (fun ls hl => ?_)
  refine lv_aload_n hx hb d_Reader_read_8 rfl (lv_at hl 1 rfl) ?_
  refine lv_iload_n hx hb d_Reader_read_9 rfl (lv_at hl 2 rfl) ?_
  obtain ⟨i_3, a_4, r_5, h_2, hm⟩ := ob_some hm
  have hFc := x_free hD hS hA
  refine xg_callv (va_runV (As := [.int v1]) (rest := []) ⟨hx, hb, hml, hown, hts⟩ (x_Reader_begin l dC dI cI adK adV adA u o g s.heap.size n h_2) (cwV 1 hts (tw_GV tw_cons cw_Reader_begin lk_Reader_47 in_Reader_begin sel_Reader_begin ini_Reader) rfl rfl rfl ⟨rfl, hd_Reader_begin⟩ ⟨Nat.le_of_ble_eq_true rfl, Nat.le_of_ble_eq_true rfl⟩) (xpV hK hP hD hS hE hFc xo_7 rfl) rfl rfl hl.1 rfl (lv_room (Nat.le_of_ble_eq_true rfl)) d_Reader_read_10 ⟨show 0 + 0 ≤ mc by omega, show 0 + 0 ≤ ms by omega⟩) hS (fun q _ h => hFc q h) hFc (fun kc_6 ks_7 u9 t9 H locs ekc eks ht hvm e9 hB hz1 hk1 hS => ?_)
  replace hkc : kc_6 + k2.1 = mc := by omega
  replace hks : ks_7 + k2.2 = ms := by omega
  clear ekc eks
  obtain ⟨hP, hD⟩ := x_aft hB ht hFc
  clear hFc hk1 hz1 hvm hB ht
  refine lv_iconst (v := 0) hx hb d_Reader_read_13 (by decide) ?_
  refine lv_istore_n (lv' := [(3, .int 0), (2, .int x_1), (0, .ref ((u 7))), (1, .int v1)]) hx hb d_Reader_read_14 rfl hl (by decide) rfl (fun ls hl => ?_)
  refine lv_iconst (v := 0) hx hb d_Reader_read_15 (by decide) ?_
  refine lv_istore (lv' := [(4, .int 0), (3, .int 0), (2, .int x_1), (0, .ref ((u 7))), (1, .int v1)]) hx hb d_Reader_read_16 hl (by decide) rfl (fun ls hl => ?_)
  refine lv_iconst (v := 0) hx hb d_Reader_read_18 (by decide) ?_
  refine lv_istore (lv' := [(5, .int 0), (4, .int 0), (3, .int 0), (2, .int x_1), (0, .ref ((u 7))), (1, .int v1)]) hx hb d_Reader_read_19 hl (by decide) rfl (fun ls hl => ?_)
  exact lb_Reader_read_21 l dC dI cI adK adV adA u n hx hb hml hown hts hK hE hA hr hlocks n _ _ _ _ _ _ _ _ hm o kc_6 ks_7 hkc hks _ _ _ hP hD hS (lv_sub hl [4, 3, 2, 1, 0] rfl)

def m_World_collect (n : Nat) (g : Nat → Nat) (i : Nat → Int32) (a : Nat → Nat → Int32)  : Option ((Nat → Int32) × (Nat → Nat → Int32) × (Nat → Nat) × (Nat × Nat) × Int32) := ob (m_Heap_beginCollecting n g i a) (fun i_2 a_3 r_4 => obG (m_Heap_moved n g i_2 a_3 (i_2 27)) (fun i_8 a_9 g_10 r_12 => ob1 (upd i_8 0 r_12 : Nat → Int32) (fun i_17 => obG (m_Names_moveAll n g_10 i_17 a_9) (fun i_19 a_20 g_21 r_23 => obG (m_Procedures_moveAll n g_21 i_19 a_20) (fun i_29 a_30 g_31 r_33 => obG (m_Heap_endCollecting n g_31 i_29 a_30) (fun i_39 a_40 g_41 r_43 => some (i_39, a_40, g_41, (0, 0), (0 : Int32))))))))
set_option maxHeartbeats 4000000 in
set_option maxRecDepth 100000 in
theorem x_World_collect (l : Launch) (dC : Nat → ClassId) (dI : Nat → Nat → Nat) (cI : ClassId) (adK adV adA u o g : Nat → Nat) (sz : Nat) (n : Nat) {i : Nat → Int32} {a : Nat → Nat → Int32}  {i2 : Nat → Int32} {a2 : Nat → Nat → Int32} {g2 : Nat → Nat} {k2 : Nat × Nat} {r2 : Int32} (hm : m_World_collect n g i a = some (i2, a2, g2, k2, r2)) : Met l y_World_collect w_World_collect ({ frames := 7, cells := k2.1, slots := k2.2, locals := 176 } : Room) (va_Pc [.ref ((u 0))] (xE dC dI cI adK adV adA u o g i a sz)) (va_Qv xVg (xBg dC dI cI u g2 i2 a2 (va_A (TW cI u o i a g) sz)) (va_A (TW cI u o i a g) sz)) k2.1 k2.2 ((va_A (TW cI u o i a g) sz)) := by
  refine Met.ofW (cc := b_World_collect) (maxL := 1) (ret := none) (by decide) rfl ?_
  intro p e s m args below meth c s₁ B hml hv
  obtain ⟨rfl, hsz, hP, hK, hE, hD0⟩ := hv
  have hx := B.exec
  have hb := B.bytes
  have hr := B.returns
  have hts := atoms_spec (ws := w_World_collect) B.pre
  have htt : ∀ w ∈ tw_T, w.before _ s = true := fun w h => hts w (List.mem_cons_of_mem _ h)
  have hown : s.vm.findClass R_World = some m.cls := findClass_of_methodNamed B.named
  have hlocks := B.notSynchronized
  subst hsz
  have hD := hD0.self (sz := s.heap.size)
  generalize hAe : (va_A (TW cI u o i a g) s.heap.size) = A at hD hE ⊢
  have hA : ∀ q : Nat, s.heap.size ≤ q → A q := fun q h => by rw [← hAe]; exact Or.inr h
  have hS : va_S A s.heap s.heap [] := va_S.rf
  obtain ⟨mc, ms, emc, ems⟩ : ∃ mc ms : Nat, k2.1 = mc ∧ k2.2 = ms := ⟨_, _, rfl, rfl⟩
  have hkc : 0 + k2.1 = mc := by rw [Nat.zero_add]; exact emc
  have hks : 0 + k2.2 = ms := by rw [Nat.zero_add]; exact ems
  rw [emc, ems]
  clear emc ems
  have hl := lv_entry ([.ref ((u 0))]) (n := 1) (Nat.le_of_ble_eq_true rfl)
  rw [lg_entry_eq]
  generalize (lg_sl ([.ref ((u 0))]) ++ List.replicate (1 - (lg_sl ([.ref ((u 0))])).length) Slot.unset).toArray = ls at hl ⊢
  have hl : lv_has ls 1 [(0, .ref ((u 0)))] := hl
  rw [m_World_collect] at hm
  refine lv_aload_n hx hb d_World_collect_0 rfl (lv_at hl 0 rfl) ?_
  refine va_get (D := (dC, dI)) (ci := 0) (v := .ref ((u 1))) (C := R_World) (T := F_World) (N := 13) hx hb htt iw_World hown hK hP 0 xo_0 rfl 0 (Nat.le_of_ble_eq_true rfl) (htt _ lk_World_17) (fun _ h9 => h9) xg_0_0 d_World_collect_1 ?_
  obtain ⟨i_2, a_3, r_4, h_1, hm⟩ := ob_some hm
  have hFc := x_free hD hS hA
  refine xg_callv (va_runV (As := []) (rest := []) ⟨hx, hb, hml, hown, hts⟩ (x_Heap_beginCollecting l dC dI cI adK adV adA u o g s.heap.size n h_1) (cwV 0 hts (tw_GV tw_cons cw_Heap_beginCollecting lk_World_251 in_Heap_beginCollecting sel_Heap_beginCollecting ini_Heap) rfl rfl rfl ⟨rfl, hd_Heap_beginCollecting⟩ ⟨Nat.le_of_ble_eq_true rfl, Nat.le_of_ble_eq_true rfl⟩) (xpV hK hP hD hS hE hFc xo_1 rfl) rfl rfl hl.1 rfl (lv_room (Nat.le_of_ble_eq_true rfl)) d_World_collect_4 ⟨show 0 + 0 ≤ mc by omega, show 0 + 0 ≤ ms by omega⟩) hS (fun q _ h => hFc q h) hFc (fun kc_5 ks_6 u9 t9 H locs ekc eks ht hvm e9 hB hz1 hk1 hS => ?_)
  replace hkc : kc_5 + k2.1 = mc := by omega
  replace hks : ks_6 + k2.2 = ms := by omega
  clear ekc eks
  obtain ⟨hP, hD⟩ := x_aft hB ht hFc
  clear hFc hk1 hz1 hvm hB ht
  refine lv_aload_n hx hb d_World_collect_7 rfl (lv_at hl 0 rfl) ?_
  refine lv_aload_n hx hb d_World_collect_8 rfl (lv_at hl 0 rfl) ?_
  refine va_get (D := (dC, dI)) (ci := 0) (v := .ref ((u 1))) (C := R_World) (T := F_World) (N := 13) hx hb htt iw_World hown hK hP 0 xo_0 rfl 0 (Nat.le_of_ble_eq_true rfl) (htt _ lk_World_17) (fun _ h9 => h9) xg_0_0 d_World_collect_9 ?_
  refine lv_aload_n hx hb d_World_collect_12 rfl (lv_at hl 0 rfl) ?_
  refine va_get (D := (dC, dI)) (ci := 0) (v := .ref ((u 7))) (C := R_World) (T := F_World) (N := 13) hx hb htt iw_World hown hK hP 0 xo_0 rfl 5 (Nat.le_of_ble_eq_true rfl) (htt _ lk_World_56) (fun _ h9 => h9) xg_0_5 d_World_collect_13 ?_
  refine va_get (D := (dC, dI)) (ci := 7) (v := .int (i_2 27)) (C := R_Reader) (T := F_Reader) (N := 19) hx hb htt iw_Reader hown hK hP 7 xo_7 rfl 6 (Nat.le_of_ble_eq_true rfl) (htt _ lk_World_254) (fun _ h9 => h9) xg_7_6 d_World_collect_16 ?_
  obtain ⟨i_8, a_9, g_10, k_11, r_12, k_13, h_7, hm, e7, e8⟩ := obG_some hm
  have hFc := x_free hD hS hA
  refine xg_calli (va_runV (As := [.int (i_2 27)]) (rest := [.ref ((u 0))]) ⟨hx, hb, hml, hown, hts⟩ (x_Heap_moved l dC dI cI adK adV adA u o g H.size n h_7) (cwV 1 hts (tw_GV tw_cons cw_Heap_moved lk_World_255 in_Heap_moved sel_Heap_moved ini_Heap) rfl rfl rfl ⟨rfl, hd_Heap_moved⟩ ⟨Nat.le_of_ble_eq_true rfl, Nat.le_of_ble_eq_true rfl⟩) (xpV hK hP hD hS hE hFc xo_1 rfl) rfl rfl hl.1 rfl (lv_room (Nat.le_of_ble_eq_true rfl)) d_World_collect_19 ⟨show kc_5 + k_11.1 ≤ mc by omega, show ks_6 + k_11.2 ≤ ms by omega⟩) hS (fun q _ h => hFc q h) hFc (fun kc_15 ks_16 r9 o_14 t9 H locs ekc eks ht hvm e9 hB hz1 hk1 hS => ?_)
  replace hkc : kc_15 + k_13.1 = mc := by omega
  replace hks : ks_16 + k_13.2 = ms := by omega
  clear e7 e8
  clear ekc eks
  have e9 : r_12 = r9 := e9
  subst e9
  obtain ⟨hP, hD⟩ := x_aftg hB ht hFc
  clear hFc hk1 hz1 hvm hB ht
  refine va_put (D := (dC, dI)) (ci := 0) (v := .int r_12) (ty := .int) (C := R_World) (T := F_World) (N := 13) hx hb htt iw_World t_World t_World_ok n_World hown hK hP hD hS 0 xo_0 rfl 9 (Nat.le_of_ble_eq_true rfl) (htt _ lk_World_125) (fun _ h9 => h9) rfl (by decide +kernel) rfl rfl xl_0_9 d_World_collect_22 (fun H locs hP hD hS => ?_)
  obtain ⟨i_17, ei_17⟩ : ∃ y9 : Nat → Int32, y9 = upd i_8 0 r_12 := ⟨_, rfl⟩
  replace hm := ob1_at ei_17 hm
  obtain ⟨hP, hD⟩ := xw_0 ei_17 hP hD
  refine lv_aload_n hx hb d_World_collect_25 rfl (lv_at hl 0 rfl) ?_
  refine va_get (D := (dC, dI)) (ci := 0) (v := .ref ((u 3))) (C := R_World) (T := F_World) (N := 13) hx hb htt iw_World hown hK hP 0 xo_0 rfl 1 (Nat.le_of_ble_eq_true rfl) (htt _ lk_World_26) (fun _ h9 => h9) xg_0_1 d_World_collect_26 ?_
  obtain ⟨i_19, a_20, g_21, k_22, r_23, k_24, h_18, hm, e7, e8⟩ := obG_some hm
  have hFc := x_free hD hS hA
  refine xg_callv (va_runV (As := []) (rest := []) ⟨hx, hb, hml, hown, hts⟩ (x_Names_moveAll l dC dI cI adK adV adA u o_14 g_10 H.size n h_18) (cwV 0 hts (tw_GV tw_cons cw_Names_moveAll lk_World_258 in_Names_moveAll sel_Names_moveAll ini_Names) rfl rfl rfl ⟨rfl, hd_Names_moveAll⟩ ⟨Nat.le_of_ble_eq_true rfl, Nat.le_of_ble_eq_true rfl⟩) (xpV hK hP hD hS hE hFc xo_3 rfl) rfl rfl hl.1 rfl (lv_room (Nat.le_of_ble_eq_true rfl)) d_World_collect_29 ⟨show kc_15 + k_22.1 ≤ mc by omega, show ks_16 + k_22.2 ≤ ms by omega⟩) hS (fun q _ h => hFc q h) hFc (fun kc_26 ks_27 o_25 t9 H locs ekc eks ht hvm e9 hB hz1 hk1 hS => ?_)
  replace hkc : kc_26 + k_24.1 = mc := by omega
  replace hks : ks_27 + k_24.2 = ms := by omega
  clear e7 e8
  clear ekc eks
  obtain ⟨hP, hD⟩ := x_aftg hB ht hFc
  clear hFc hk1 hz1 hvm hB ht
  refine lv_aload_n hx hb d_World_collect_32 rfl (lv_at hl 0 rfl) ?_
  refine va_get (D := (dC, dI)) (ci := 0) (v := .ref ((u 4))) (C := R_World) (T := F_World) (N := 13) hx hb htt iw_World hown hK hP 0 xo_0 rfl 2 (Nat.le_of_ble_eq_true rfl) (htt _ lk_World_33) (fun _ h9 => h9) xg_0_2 d_World_collect_33 ?_
  obtain ⟨i_29, a_30, g_31, k_32, r_33, k_34, h_28, hm, e7, e8⟩ := obG_some hm
  have hFc := x_free hD hS hA
  refine xg_callv (va_runV (As := []) (rest := []) ⟨hx, hb, hml, hown, hts⟩ (x_Procedures_moveAll l dC dI cI adK adV adA u o_25 g_21 H.size n h_28) (cwV 0 hts (tw_GV tw_cons cw_Procedures_moveAll lk_World_261 in_Procedures_moveAll sel_Procedures_moveAll ini_Procedures) rfl rfl rfl ⟨rfl, hd_Procedures_moveAll⟩ ⟨Nat.le_of_ble_eq_true rfl, Nat.le_of_ble_eq_true rfl⟩) (xpV hK hP hD hS hE hFc xo_4 rfl) rfl rfl hl.1 rfl (lv_room (Nat.le_of_ble_eq_true rfl)) d_World_collect_36 ⟨show kc_26 + k_32.1 ≤ mc by omega, show ks_27 + k_32.2 ≤ ms by omega⟩) hS (fun q _ h => hFc q h) hFc (fun kc_36 ks_37 o_35 t9 H locs ekc eks ht hvm e9 hB hz1 hk1 hS => ?_)
  replace hkc : kc_36 + k_34.1 = mc := by omega
  replace hks : ks_37 + k_34.2 = ms := by omega
  clear e7 e8
  clear ekc eks
  obtain ⟨hP, hD⟩ := x_aftg hB ht hFc
  clear hFc hk1 hz1 hvm hB ht
  refine lv_aload_n hx hb d_World_collect_39 rfl (lv_at hl 0 rfl) ?_
  refine va_get (D := (dC, dI)) (ci := 0) (v := .ref ((u 1))) (C := R_World) (T := F_World) (N := 13) hx hb htt iw_World hown hK hP 0 xo_0 rfl 0 (Nat.le_of_ble_eq_true rfl) (htt _ lk_World_17) (fun _ h9 => h9) xg_0_0 d_World_collect_40 ?_
  obtain ⟨i_39, a_40, g_41, k_42, r_43, k_44, h_38, hm, e7, e8⟩ := obG_some hm
  have hFc := x_free hD hS hA
  refine xg_callv (va_runV (As := []) (rest := []) ⟨hx, hb, hml, hown, hts⟩ (x_Heap_endCollecting l dC dI cI adK adV adA u o_35 g_31 H.size n h_38) (cwV 0 hts (tw_GV tw_cons cw_Heap_endCollecting lk_World_262 in_Heap_endCollecting sel_Heap_endCollecting ini_Heap) rfl rfl rfl ⟨rfl, hd_Heap_endCollecting⟩ ⟨Nat.le_of_ble_eq_true rfl, Nat.le_of_ble_eq_true rfl⟩) (xpV hK hP hD hS hE hFc xo_1 rfl) rfl rfl hl.1 rfl (lv_room (Nat.le_of_ble_eq_true rfl)) d_World_collect_43 ⟨show kc_36 + k_42.1 ≤ mc by omega, show ks_37 + k_42.2 ≤ ms by omega⟩) hS (fun q _ h => hFc q h) hFc (fun kc_46 ks_47 o_45 t9 H locs ekc eks ht hvm e9 hB hz1 hk1 hS => ?_)
  replace hkc : kc_46 + k_44.1 = mc := by omega
  replace hks : ks_47 + k_44.2 = ms := by omega
  clear e7 e8
  clear ekc eks
  obtain ⟨hP, hD⟩ := x_aftg hB ht hFc
  clear hFc hk1 hz1 hvm hB ht
  obtain ⟨e1, e2, e4, e5, e6, e3⟩ := re5 hm
  obtain ⟨hP, hD⟩ := x_eqg e1 e2 e4 hP hD
  refine W.widen (k := mc) (n := ms) (show kc_46 ≤ mc by omega) (show ks_47 ≤ ms by omega) ?_
  exact W.vret hx hb hr (fun t9 ht hW => ⟨⟨o_45, rfl, trivial, by rw [ht]; exact hP, hD⟩, hS.F ht⟩) hS.2.2 d_World_collect_46

def m_Machine_begin (n : Nat) (g : Nat → Nat) (i : Nat → Int32) (a : Nat → Nat → Int32) (v1 : Int32) : Option ((Nat → Int32) × (Nat → Nat → Int32) × (Nat → Nat) × (Nat × Nat) × Int32) := ob (m_Line_begin n g i a) (fun i_2 a_3 r_4 => ob (m_Waiting_begin n g i_2 a_3) (fun i_8 a_9 r_10 => ob (m_Names_dropLocals n g i_8 a_9 (0 : Int32)) (fun i_14 a_15 r_16 => ob (m_Line_open n g i_14 a_15 (0 : Int32) v1) (fun i_20 a_21 r_22 => ob1 (upd i_20 46 0 : Nat → Int32) (fun i_25 => obG (m_Machine_advance n g i_25 a_21) (fun i_27 a_28 g_29 r_31 => some (i_27, a_28, g_29, (0, 0), (0 : Int32))))))))
set_option maxHeartbeats 4000000 in
set_option maxRecDepth 100000 in
theorem x_Machine_begin (l : Launch) (dC : Nat → ClassId) (dI : Nat → Nat → Nat) (cI : ClassId) (adK adV adA u o g : Nat → Nat) (sz : Nat) (n : Nat) {i : Nat → Int32} {a : Nat → Nat → Int32} {v1 : Int32} {i2 : Nat → Int32} {a2 : Nat → Nat → Int32} {g2 : Nat → Nat} {k2 : Nat × Nat} {r2 : Int32} (hm : m_Machine_begin n g i a v1 = some (i2, a2, g2, k2, r2)) : Met l y_Machine_begin w_Machine_begin ({ frames := 8, cells := k2.1, slots := k2.2, locals := 199 } : Room) (va_Pc [.ref ((u 11)), .int v1] (xE dC dI cI adK adV adA u o g i a sz)) (va_Qv xVg (xBg dC dI cI u g2 i2 a2 (va_A (TW cI u o i a g) sz)) (va_A (TW cI u o i a g) sz)) k2.1 k2.2 ((va_A (TW cI u o i a g) sz)) := by
  refine Met.ofW (cc := b_Machine_begin) (maxL := 2) (ret := none) (by decide) rfl ?_
  intro p e s m args below meth c s₁ B hml hv
  obtain ⟨rfl, hsz, hP, hK, hE, hD0⟩ := hv
  have hx := B.exec
  have hb := B.bytes
  have hr := B.returns
  have hts := atoms_spec (ws := w_Machine_begin) B.pre
  have htt : ∀ w ∈ tw_T, w.before _ s = true := fun w h => hts w (List.mem_cons_of_mem _ h)
  have hown : s.vm.findClass R_Machine = some m.cls := findClass_of_methodNamed B.named
  have hlocks := B.notSynchronized
  subst hsz
  have hD := hD0.self (sz := s.heap.size)
  generalize hAe : (va_A (TW cI u o i a g) s.heap.size) = A at hD hE ⊢
  have hA : ∀ q : Nat, s.heap.size ≤ q → A q := fun q h => by rw [← hAe]; exact Or.inr h
  have hS : va_S A s.heap s.heap [] := va_S.rf
  obtain ⟨mc, ms, emc, ems⟩ : ∃ mc ms : Nat, k2.1 = mc ∧ k2.2 = ms := ⟨_, _, rfl, rfl⟩
  have hkc : 0 + k2.1 = mc := by rw [Nat.zero_add]; exact emc
  have hks : 0 + k2.2 = ms := by rw [Nat.zero_add]; exact ems
  rw [emc, ems]
  clear emc ems
  have hl := lv_entry ([.ref ((u 11)), .int v1]) (n := 2) (Nat.le_of_ble_eq_true rfl)
  rw [lg_entry_eq]
  generalize (lg_sl ([.ref ((u 11)), .int v1]) ++ List.replicate (2 - (lg_sl ([.ref ((u 11)), .int v1])).length) Slot.unset).toArray = ls at hl ⊢
  have hl : lv_has ls 2 [(0, .ref ((u 11))), (1, .int v1)] := hl
  rw [m_Machine_begin] at hm
  refine lv_aload_n hx hb d_Machine_begin_0 rfl (lv_at hl 0 rfl) ?_
  refine va_get (D := (dC, dI)) (ci := 11) (v := .ref ((u 8))) (C := R_Machine) (T := F_Machine) (N := 9) hx hb htt iw_Machine hown hK hP 11 xo_11 rfl 1 (Nat.le_of_ble_eq_true rfl) (htt _ lk_Machine_18) (fun _ h9 => h9) xg_11_1 d_Machine_begin_1 ?_
  obtain ⟨i_2, a_3, r_4, h_1, hm⟩ := ob_some hm
  have hFc := x_free hD hS hA
  refine xg_callv (va_runV (As := []) (rest := []) ⟨hx, hb, hml, hown, hts⟩ (x_Line_begin l dC dI cI adK adV adA u o g s.heap.size n h_1) (cwV 0 hts (tw_GV tw_cons cw_Line_begin lk_Machine_48 in_Line_begin sel_Line_begin ini_Line) rfl rfl rfl ⟨rfl, hd_Line_begin⟩ ⟨Nat.le_of_ble_eq_true rfl, Nat.le_of_ble_eq_true rfl⟩) (xpV hK hP hD hS hE hFc xo_8 rfl) rfl rfl hl.1 rfl (lv_room (Nat.le_of_ble_eq_true rfl)) d_Machine_begin_4 ⟨show 0 + 0 ≤ mc by omega, show 0 + 0 ≤ ms by omega⟩) hS (fun q _ h => hFc q h) hFc (fun kc_5 ks_6 u9 t9 H locs ekc eks ht hvm e9 hB hz1 hk1 hS => ?_)
  replace hkc : kc_5 + k2.1 = mc := by omega
  replace hks : ks_6 + k2.2 = ms := by omega
  clear ekc eks
  obtain ⟨hP, hD⟩ := x_aft hB ht hFc
  clear hFc hk1 hz1 hvm hB ht
  refine lv_aload_n hx hb d_Machine_begin_7 rfl (lv_at hl 0 rfl) ?_
  refine va_get (D := (dC, dI)) (ci := 11) (v := .ref ((u 9))) (C := R_Machine) (T := F_Machine) (N := 9) hx hb htt iw_Machine hown hK hP 11 xo_11 rfl 2 (Nat.le_of_ble_eq_true rfl) (htt _ lk_Machine_22) (fun _ h9 => h9) xg_11_2 d_Machine_begin_8 ?_
  obtain ⟨i_8, a_9, r_10, h_7, hm⟩ := ob_some hm
  have hFc := x_free hD hS hA
  refine xg_callv (va_runV (As := []) (rest := []) ⟨hx, hb, hml, hown, hts⟩ (x_Waiting_begin l dC dI cI adK adV adA u o g H.size n h_7) (cwV 0 hts (tw_GV tw_cons cw_Waiting_begin lk_Machine_51 in_Waiting_begin sel_Waiting_begin ini_Waiting) rfl rfl rfl ⟨rfl, hd_Waiting_begin⟩ ⟨Nat.le_of_ble_eq_true rfl, Nat.le_of_ble_eq_true rfl⟩) (xpV hK hP hD hS hE hFc xo_9 rfl) rfl rfl hl.1 rfl (lv_room (Nat.le_of_ble_eq_true rfl)) d_Machine_begin_11 ⟨show kc_5 + 0 ≤ mc by omega, show ks_6 + 0 ≤ ms by omega⟩) hS (fun q _ h => hFc q h) hFc (fun kc_11 ks_12 u9 t9 H locs ekc eks ht hvm e9 hB hz1 hk1 hS => ?_)
  replace hkc : kc_11 + k2.1 = mc := by omega
  replace hks : ks_12 + k2.2 = ms := by omega
  clear ekc eks
  obtain ⟨hP, hD⟩ := x_aft hB ht hFc
  clear hFc hk1 hz1 hvm hB ht
  refine lv_aload_n hx hb d_Machine_begin_14 rfl (lv_at hl 0 rfl) ?_
  refine va_get (D := (dC, dI)) (ci := 11) (v := .ref ((u 3))) (C := R_Machine) (T := F_Machine) (N := 9) hx hb htt iw_Machine hown hK hP 11 xo_11 rfl 3 (Nat.le_of_ble_eq_true rfl) (htt _ lk_Machine_26) (fun _ h9 => h9) xg_11_3 d_Machine_begin_15 ?_
  refine lv_iconst (v := 0) hx hb d_Machine_begin_18 (by decide) ?_
  obtain ⟨i_14, a_15, r_16, h_13, hm⟩ := ob_some hm
  have hFc := x_free hD hS hA
  refine xg_callv (va_runV (As := [.int 0]) (rest := []) ⟨hx, hb, hml, hown, hts⟩ (x_Names_dropLocals l dC dI cI adK adV adA u o g H.size n h_13) (cwV 1 hts (tw_GV tw_cons cw_Names_dropLocals lk_Machine_52 in_Names_dropLocals sel_Names_dropLocals ini_Names) rfl rfl rfl ⟨rfl, hd_Names_dropLocals⟩ ⟨Nat.le_of_ble_eq_true rfl, Nat.le_of_ble_eq_true rfl⟩) (xpV hK hP hD hS hE hFc xo_3 rfl) rfl rfl hl.1 rfl (lv_room (Nat.le_of_ble_eq_true rfl)) d_Machine_begin_19 ⟨show kc_11 + 0 ≤ mc by omega, show ks_12 + 0 ≤ ms by omega⟩) hS (fun q _ h => hFc q h) hFc (fun kc_17 ks_18 u9 t9 H locs ekc eks ht hvm e9 hB hz1 hk1 hS => ?_)
  replace hkc : kc_17 + k2.1 = mc := by omega
  replace hks : ks_18 + k2.2 = ms := by omega
  clear ekc eks
  obtain ⟨hP, hD⟩ := x_aft hB ht hFc
  clear hFc hk1 hz1 hvm hB ht
  refine lv_aload_n hx hb d_Machine_begin_22 rfl (lv_at hl 0 rfl) ?_
  refine va_get (D := (dC, dI)) (ci := 11) (v := .ref ((u 8))) (C := R_Machine) (T := F_Machine) (N := 9) hx hb htt iw_Machine hown hK hP 11 xo_11 rfl 1 (Nat.le_of_ble_eq_true rfl) (htt _ lk_Machine_18) (fun _ h9 => h9) xg_11_1 d_Machine_begin_23 ?_
  refine lv_iconst (v := 0) hx hb d_Machine_begin_26 (by decide) ?_
  refine lv_iload_n hx hb d_Machine_begin_27 rfl (lv_at hl 1 rfl) ?_
  refine lv_aload_n hx hb d_Machine_begin_28 rfl (lv_at hl 0 rfl) ?_
  refine va_get (D := (dC, dI)) (ci := 11) (v := .ref ((u 9))) (C := R_Machine) (T := F_Machine) (N := 9) hx hb htt iw_Machine hown hK hP 11 xo_11 rfl 2 (Nat.le_of_ble_eq_true rfl) (htt _ lk_Machine_22) (fun _ h9 => h9) xg_11_2 d_Machine_begin_29 ?_
  obtain ⟨i_20, a_21, r_22, h_19, hm⟩ := ob_some hm
  have hFc := x_free hD hS hA
  refine xg_calli (va_runV (As := [.int 0, .int v1, .ref ((u 9))]) (rest := []) ⟨hx, hb, hml, hown, hts⟩ (x_Line_open l dC dI cI adK adV adA u o g H.size n h_19) (cwV 3 hts (tw_GV tw_cons cw_Line_open lk_Machine_58 in_Line_open sel_Line_open ini_Line) rfl rfl rfl ⟨rfl, hd_Line_open⟩ ⟨Nat.le_of_ble_eq_true rfl, Nat.le_of_ble_eq_true rfl⟩) (xpV hK hP hD hS hE hFc xo_8 rfl) rfl rfl hl.1 rfl (lv_room (Nat.le_of_ble_eq_true rfl)) d_Machine_begin_32 ⟨show kc_17 + 0 ≤ mc by omega, show ks_18 + 0 ≤ ms by omega⟩) hS (fun q _ h => hFc q h) hFc (fun kc_23 ks_24 r9 u9 t9 H locs ekc eks ht hvm e9 hB hz1 hk1 hS => ?_)
  replace hkc : kc_23 + k2.1 = mc := by omega
  replace hks : ks_24 + k2.2 = ms := by omega
  clear ekc eks
  have e9 : r_22 = r9 := e9
  subst e9
  obtain ⟨hP, hD⟩ := x_aft hB ht hFc
  clear hFc hk1 hz1 hvm hB ht
  refine lv_pop hx hb d_Machine_begin_35 rfl ?_
  refine lv_aload_n hx hb d_Machine_begin_36 rfl (lv_at hl 0 rfl) ?_
  refine lv_iconst (v := 0) hx hb d_Machine_begin_37 (by decide) ?_
  refine va_put (D := (dC, dI)) (ci := 11) (v := .int 0) (ty := .int) (C := R_Machine) (T := F_Machine) (N := 9) hx hb htt iw_Machine t_Machine t_Machine_ok n_Machine hown hK hP hD hS 11 xo_11 rfl 7 (Nat.le_of_ble_eq_true rfl) (htt _ lk_Machine_62) (fun _ h9 => h9) rfl (by decide +kernel) rfl rfl xl_11_7 d_Machine_begin_38 (fun H locs hP hD hS => ?_)
  obtain ⟨i_25, ei_25⟩ : ∃ y9 : Nat → Int32, y9 = upd i_20 46 0 := ⟨_, rfl⟩
  replace hm := ob1_at ei_25 hm
  obtain ⟨hP, hD⟩ := xw_46 ei_25 hP hD
  refine lv_aload_n hx hb d_Machine_begin_41 rfl (lv_at hl 0 rfl) ?_
  obtain ⟨i_27, a_28, g_29, k_30, r_31, k_32, h_26, hm, e7, e8⟩ := obG_some hm
  have hFc := x_free hD hS hA
  refine xg_callv (va_runV (As := []) (rest := []) ⟨hx, hb, hml, hown, hts⟩ (x_Machine_advance l dC dI cI adK adV adA u o g H.size n h_26) (cwV 0 hts (tw_GV tw_cons cw_Machine_advance lk_Machine_65 in_Machine_advance sel_Machine_advance ini_Machine) rfl rfl rfl ⟨rfl, hd_Machine_advance⟩ ⟨Nat.le_of_ble_eq_true rfl, Nat.le_of_ble_eq_true rfl⟩) (xpV hK hP hD hS hE hFc xo_11 rfl) rfl rfl hl.1 rfl (lv_room (Nat.le_of_ble_eq_true rfl)) d_Machine_begin_42 ⟨show kc_23 + k_30.1 ≤ mc by omega, show ks_24 + k_30.2 ≤ ms by omega⟩) hS (fun q _ h => hFc q h) hFc (fun kc_34 ks_35 o_33 t9 H locs ekc eks ht hvm e9 hB hz1 hk1 hS => ?_)
  replace hkc : kc_34 + k_32.1 = mc := by omega
  replace hks : ks_35 + k_32.2 = ms := by omega
  clear e7 e8
  clear ekc eks
  obtain ⟨hP, hD⟩ := x_aftg hB ht hFc
  clear hFc hk1 hz1 hvm hB ht
  obtain ⟨e1, e2, e4, e5, e6, e3⟩ := re5 hm
  obtain ⟨hP, hD⟩ := x_eqg e1 e2 e4 hP hD
  refine W.widen (k := mc) (n := ms) (show kc_34 ≤ mc by omega) (show ks_35 ≤ ms by omega) ?_
  exact W.vret hx hb hr (fun t9 ht hW => ⟨⟨o_33, rfl, trivial, by rw [ht]; exact hP, hD⟩, hS.F ht⟩) hS.2.2 d_Machine_begin_45

def m_Machine_goOn_b13 (n : Nat) : Nat → (Nat → Int32) → (Nat → Nat → Int32) → (Nat → Nat) → Int32 → Int32 → Int32 → Option ((Nat → Int32) × (Nat → Nat → Int32) × (Nat → Nat) × (Nat × Nat) × Int32)
  | 0, _, _, _, _, _, _ => none
  | f + 1, i, a, g, v2, v3, v4 => if v2 ≤ v4 then some (i, a, g, (0, 0), v3) else if ((i 35)) = ((1 : Int32)) then ob1 ((i 37) + 1 : Int32) (fun x_3 => ob1 (upd i 37 x_3 : Nat → Int32) (fun i_4 => ob1 (v3 + 1 : Int32) (fun x_5 => ob1 (upd i_4 46 0 : Nat → Int32) (fun i_6 => obG (m_Machine_applyReady n g i_6 a) (fun i_8 a_9 g_10 r_12 => ob (m_Machine_take n g_10 i_8 a_9 r_12) (fun i_18 a_19 r_20 => obG (m_Machine_advance n g_10 i_18 a_19) (fun i_24 a_25 g_26 r_28 => ob1 (v4 + 1 : Int32) (fun x_33 => m_Machine_goOn_b13 n f i_24 a_25 g_26 v2 x_5 x_33)))))))) else some (i, a, g, (0, 0), v3)
set_option maxHeartbeats 4000000 in
set_option maxRecDepth 100000 in
theorem lb_Machine_goOn_13 (l : Launch) (dC : Nat → ClassId) (dI : Nat → Nat → Nat) (cI : ClassId) (adK adV adA u : Nat → Nat) (n : Nat) {p : Program} {e : Env} {s : State} {m : MethodId} {args : Array Value} {below : List Frame} {meth : Method} {c : Code} {A : Nat → Prop} (hx : p.tables.exec = Jvm.exec) (hb : c.code = b_Machine_goOn) (hml : c.maxLocals = 5) (hown : s.vm.findClass R_Machine = some m.cls) (hts : ∀ w ∈ w_Machine_goOn, w.before args s = true) (hK : va_K (dC, dI) classes [(cI, .int)] s) (hE : tw_E adK adV adA A s s.heap) (hA : ∀ q : Nat, s.heap.size ≤ q → A q) (hr : meth.sig.returnType = (some .int)) (hlocks : meth.locks = false) {mc ms : Nat} {i2 : Nat → Int32} {a2 : Nat → Nat → Int32} {g2 : Nat → Nat} {r2 : Int32} : ∀ (f : Nat) (i : Nat → Int32) (a : Nat → Nat → Int32) (g : Nat → Nat) (v2 : Int32) (v3 : Int32) (v4 : Int32) (k2 : Nat × Nat), m_Machine_goOn_b13 n f i a g v2 v3 v4 = some (i2, a2, g2, k2, r2) → ∀ (o : Nat → Nat) (kc ks : Nat), kc + k2.1 = mc → ks + k2.2 = ms → ∀ (H : Heap) (locs : List Loc) (ls : Array Slot), va_P (dC, dI) classes (TW cI u o i a g) H → va_D A (TW cI u o i a g) → va_S A s.heap H locs → lv_has ls 5 [(0, .ref ((u 11))), (2, .int v2), (3, .int v3), (4, .int v4)] → W p l e ({ frames := 8, cells := mc, slots := ms, locals := 205 } : Room) s m args below meth c H locs kc ks (MQ below (va_Qi (xRg r2) (xBg dC dI cI u g2 i2 a2 A) A) args s mc ms A) (F0 m 13 ls []) := by
  have htt : ∀ w ∈ tw_T, w.before _ s = true := fun w h => hts w (List.mem_cons_of_mem _ h)
  intro f
  induction f with
  | zero =>
    intro i a g v2 v3 v4 k2 hm
    rw [m_Machine_goOn_b13] at hm
    cases hm
  | succ f ih =>
    intro i a g v2 v3 v4 k2 hm o kc ks hkc hks H locs ls hP hD hS hl
    rw [m_Machine_goOn_b13] at hm
    refine lv_iload hx hb d_Machine_goOn_13 (lv_at hl 3 rfl) ?_
    refine lv_iload_n hx hb d_Machine_goOn_15 rfl (lv_at hl 1 rfl) ?_
    refine lv_icmp_ge (tgt := 69) hx hb d_Machine_goOn_16 (by decide) (fun c_1 => ?_) (fun c_1 => ?_)
    · replace hm := if_t c_1 hm
      refine lv_iload_n hx hb d_Machine_goOn_69 rfl (lv_at hl 2 rfl) ?_
      obtain ⟨e1, e2, e4, e5, e6, e3⟩ := re5 hm
      obtain ⟨hP, hD⟩ := x_eqg e1 e2 e4 hP hD
      refine W.widen (k := mc) (n := ms) (show kc ≤ mc by omega) (show ks ≤ ms by omega) ?_
      exact W.iret hx hb hr (fun t9 ht hW => ⟨⟨_, o, rfl, e3.symm, by rw [ht]; exact hP, hD⟩, hS.F ht⟩) hS.2.2 d_Machine_goOn_70
    · replace hm := if_f c_1 hm
      refine lv_aload_n hx hb d_Machine_goOn_19 rfl (lv_at hl 0 rfl) ?_
      refine va_get (D := (dC, dI)) (ci := 11) (v := .ref ((u 8))) (C := R_Machine) (T := F_Machine) (N := 9) hx hb htt iw_Machine hown hK hP 11 xo_11 rfl 1 (Nat.le_of_ble_eq_true rfl) (htt _ lk_Machine_18) (fun _ h9 => h9) xg_11_1 d_Machine_goOn_20 ?_
      refine va_get (D := (dC, dI)) (ci := 8) (v := .int (i 35)) (C := R_Line) (T := F_Line) (N := 18) hx hb htt iw_Line hown hK hP 8 xo_8 rfl 1 (Nat.le_of_ble_eq_true rfl) (htt _ lk_Machine_74) (fun _ h9 => h9) xg_8_1 d_Machine_goOn_23 ?_
      refine lv_iconst (v := 1) hx hb d_Machine_goOn_26 (by decide) ?_
      refine lv_icmp_ne (tgt := 69) hx hb d_Machine_goOn_27 (by decide) (fun c_2 => ?_) (fun c_2 => ?_)
      · replace hm := if_f c_2 hm
        refine lv_iload_n hx hb d_Machine_goOn_69 rfl (lv_at hl 2 rfl) ?_
        obtain ⟨e1, e2, e4, e5, e6, e3⟩ := re5 hm
        obtain ⟨hP, hD⟩ := x_eqg e1 e2 e4 hP hD
        refine W.widen (k := mc) (n := ms) (show kc ≤ mc by omega) (show ks ≤ ms by omega) ?_
        exact W.iret hx hb hr (fun t9 ht hW => ⟨⟨_, o, rfl, e3.symm, by rw [ht]; exact hP, hD⟩, hS.F ht⟩) hS.2.2 d_Machine_goOn_70
      · replace hm := if_t c_2 hm
        refine lv_aload_n hx hb d_Machine_goOn_30 rfl (lv_at hl 0 rfl) ?_
        refine va_get (D := (dC, dI)) (ci := 11) (v := .ref ((u 8))) (C := R_Machine) (T := F_Machine) (N := 9) hx hb htt iw_Machine hown hK hP 11 xo_11 rfl 1 (Nat.le_of_ble_eq_true rfl) (htt _ lk_Machine_18) (fun _ h9 => h9) xg_11_1 d_Machine_goOn_31 ?_
        refine lv_dup hx hb d_Machine_goOn_34 rfl ?_
        refine va_get (D := (dC, dI)) (ci := 8) (v := .int (i 37)) (C := R_Line) (T := F_Line) (N := 18) hx hb htt iw_Line hown hK hP 8 xo_8 rfl 3 (Nat.le_of_ble_eq_true rfl) (htt _ lk_Machine_77) (fun _ h9 => h9) xg_8_3 d_Machine_goOn_35 ?_
        refine lv_iconst (v := 1) hx hb d_Machine_goOn_38 (by decide) ?_
        refine lv_iadd hx hb d_Machine_goOn_39 ?_
        refine lv_topi (fun x_3 ex_3 => ?_)
        replace hm := ob1_at ex_3 hm
        refine va_put (D := (dC, dI)) (ci := 8) (v := .int x_3) (ty := .int) (C := R_Line) (T := F_Line) (N := 18) hx hb htt iw_Line t_Line t_Line_ok n_Line hown hK hP hD hS 8 xo_8 rfl 3 (Nat.le_of_ble_eq_true rfl) (htt _ lk_Machine_77) (fun _ h9 => h9) rfl (by decide +kernel) rfl rfl xl_8_3 d_Machine_goOn_40 (fun H locs hP hD hS => ?_)
        obtain ⟨i_4, ei_4⟩ : ∃ y9 : Nat → Int32, y9 = upd i 37 x_3 := ⟨_, rfl⟩
        replace hm := ob1_at ei_4 hm
        obtain ⟨hP, hD⟩ := xw_37 ei_4 hP hD
        obtain ⟨x_5, ex_5⟩ : ∃ y9 : Int32, y9 = v3 + 1 := ⟨_, rfl⟩
        replace hm := ob1_at ex_5 hm
        refine lv_iinc (v := x_5) (lv' := [(3, .int x_5), (0, .ref ((u 11))), (2, .int v2), (4, .int v4)]) hx hb d_Machine_goOn_43 hl (k := 2) rfl (by rw [ex_5]; rfl) (by decide) rfl (fun ls hl => ?_)
        refine lv_aload_n hx hb d_Machine_goOn_46 rfl (lv_at hl 1 rfl) ?_
        refine lv_iconst (v := 0) hx hb d_Machine_goOn_47 (by decide) ?_
        refine va_put (D := (dC, dI)) (ci := 11) (v := .int 0) (ty := .int) (C := R_Machine) (T := F_Machine) (N := 9) hx hb htt iw_Machine t_Machine t_Machine_ok n_Machine hown hK hP hD hS 11 xo_11 rfl 7 (Nat.le_of_ble_eq_true rfl) (htt _ lk_Machine_62) (fun _ h9 => h9) rfl (by decide +kernel) rfl rfl xl_11_7 d_Machine_goOn_48 (fun H locs hP hD hS => ?_)
        obtain ⟨i_6, ei_6⟩ : ∃ y9 : Nat → Int32, y9 = upd i_4 46 0 := ⟨_, rfl⟩
        replace hm := ob1_at ei_6 hm
        obtain ⟨hP, hD⟩ := xw_46 ei_6 hP hD
        refine lv_aload_n hx hb d_Machine_goOn_51 rfl (lv_at hl 1 rfl) ?_
        refine lv_aload_n hx hb d_Machine_goOn_52 rfl (lv_at hl 1 rfl) ?_
        obtain ⟨i_8, a_9, g_10, k_11, r_12, k_13, h_7, hm, e7, e8⟩ := obG_some hm
        have hFc := x_free hD hS hA
        refine xg_calli (va_runV (As := []) (rest := [.ref ((u 11))]) ⟨hx, hb, hml, hown, hts⟩ (x_Machine_applyReady l dC dI cI adK adV adA u o g H.size n h_7) (cwV 0 hts (tw_GV tw_cons cw_Machine_applyReady lk_Machine_80 in_Machine_applyReady sel_Machine_applyReady ini_Machine) rfl rfl rfl ⟨rfl, hd_Machine_applyReady⟩ ⟨Nat.le_of_ble_eq_true rfl, Nat.le_of_ble_eq_true rfl⟩) (xpV hK hP hD hS hE hFc xo_11 rfl) rfl rfl hl.1 rfl (lv_room (Nat.le_of_ble_eq_true rfl)) d_Machine_goOn_53 ⟨show kc + k_11.1 ≤ mc by omega, show ks + k_11.2 ≤ ms by omega⟩) hS (fun q _ h => hFc q h) hFc (fun kc_15 ks_16 r9 o_14 t9 H locs ekc eks ht hvm e9 hB hz1 hk1 hS => ?_)
        replace hkc : kc_15 + k_13.1 = mc := by omega
        replace hks : ks_16 + k_13.2 = ms := by omega
        clear e7 e8
        clear ekc eks
        have e9 : r_12 = r9 := e9
        subst e9
        obtain ⟨hP, hD⟩ := x_aftg hB ht hFc
        clear hFc hk1 hz1 hvm hB ht
        obtain ⟨i_18, a_19, r_20, h_17, hm⟩ := ob_some hm
        have hFc := x_free hD hS hA
        refine xg_callv (va_runV (As := [.int r_12]) (rest := []) ⟨hx, hb, hml, hown, hts⟩ (x_Machine_take l dC dI cI adK adV adA u o_14 g_10 H.size n h_17) (cwV 1 hts (tw_GV tw_cons cw_Machine_take lk_Machine_84 in_Machine_take sel_Machine_take ini_Machine) rfl rfl rfl ⟨rfl, hd_Machine_take⟩ ⟨Nat.le_of_ble_eq_true rfl, Nat.le_of_ble_eq_true rfl⟩) (xpV hK hP hD hS hE hFc xo_11 rfl) rfl rfl hl.1 rfl (lv_room (Nat.le_of_ble_eq_true rfl)) d_Machine_goOn_56 ⟨show kc_15 + 0 ≤ mc by omega, show ks_16 + 0 ≤ ms by omega⟩) hS (fun q _ h => hFc q h) hFc (fun kc_21 ks_22 u9 t9 H locs ekc eks ht hvm e9 hB hz1 hk1 hS => ?_)
        replace hkc : kc_21 + k_13.1 = mc := by omega
        replace hks : ks_22 + k_13.2 = ms := by omega
        clear ekc eks
        obtain ⟨hP, hD⟩ := x_aft hB ht hFc
        clear hFc hk1 hz1 hvm hB ht
        refine lv_aload_n hx hb d_Machine_goOn_59 rfl (lv_at hl 1 rfl) ?_
        obtain ⟨i_24, a_25, g_26, k_27, r_28, k_29, h_23, hm, e7, e8⟩ := obG_some hm
        have hFc := x_free hD hS hA
        refine xg_callv (va_runV (As := []) (rest := []) ⟨hx, hb, hml, hown, hts⟩ (x_Machine_advance l dC dI cI adK adV adA u o_14 g_10 H.size n h_23) (cwV 0 hts (tw_GV tw_cons cw_Machine_advance lk_Machine_65 in_Machine_advance sel_Machine_advance ini_Machine) rfl rfl rfl ⟨rfl, hd_Machine_advance⟩ ⟨Nat.le_of_ble_eq_true rfl, Nat.le_of_ble_eq_true rfl⟩) (xpV hK hP hD hS hE hFc xo_11 rfl) rfl rfl hl.1 rfl (lv_room (Nat.le_of_ble_eq_true rfl)) d_Machine_goOn_60 ⟨show kc_21 + k_27.1 ≤ mc by omega, show ks_22 + k_27.2 ≤ ms by omega⟩) hS (fun q _ h => hFc q h) hFc (fun kc_31 ks_32 o_30 t9 H locs ekc eks ht hvm e9 hB hz1 hk1 hS => ?_)
        replace hkc : kc_31 + k_29.1 = mc := by omega
        replace hks : ks_32 + k_29.2 = ms := by omega
        clear e7 e8
        clear ekc eks
        obtain ⟨hP, hD⟩ := x_aftg hB ht hFc
        clear hFc hk1 hz1 hvm hB ht
        obtain ⟨x_33, ex_33⟩ : ∃ y9 : Int32, y9 = v4 + 1 := ⟨_, rfl⟩
        replace hm := ob1_at ex_33 hm
        refine lv_iinc (v := x_33) (lv' := [(4, .int x_33), (3, .int x_5), (0, .ref ((u 11))), (2, .int v2)]) hx hb d_Machine_goOn_63 hl (k := 3) rfl (by rw [ex_33]; rfl) (by decide) rfl (fun ls hl => ?_)
        refine lv_goto (tgt := 13) hx hb d_Machine_goOn_66 (by decide) ?_
        exact ih _ _ _ _ _ _ _ hm o_30 kc_31 ks_32 hkc hks _ _ _ hP hD hS (lv_sub hl [2, 3, 1, 0] rfl)
def m_Machine_goOn (n : Nat) (g : Nat → Nat) (i : Nat → Int32) (a : Nat → Nat → Int32) (v1 : Int32) : Option ((Nat → Int32) × (Nat → Nat → Int32) × (Nat → Nat) × (Nat × Nat) × Int32) := ob0 (m_Math_min n v1 (20000 : Int32)) (fun r_2 => m_Machine_goOn_b13 n n i a g r_2 (0 : Int32) (0 : Int32))
set_option maxHeartbeats 4000000 in
set_option maxRecDepth 100000 in
theorem x_Machine_goOn (l : Launch) (dC : Nat → ClassId) (dI : Nat → Nat → Nat) (cI : ClassId) (adK adV adA u o g : Nat → Nat) (sz : Nat) (n : Nat) {i : Nat → Int32} {a : Nat → Nat → Int32} {v1 : Int32} {i2 : Nat → Int32} {a2 : Nat → Nat → Int32} {g2 : Nat → Nat} {k2 : Nat × Nat} {r2 : Int32} (hm : m_Machine_goOn n g i a v1 = some (i2, a2, g2, k2, r2)) : Met l y_Machine_goOn w_Machine_goOn ({ frames := 8, cells := k2.1, slots := k2.2, locals := 205 } : Room) (va_Pc [.ref ((u 11)), .int v1] (xE dC dI cI adK adV adA u o g i a sz)) (va_Qi (xRg r2) (xBg dC dI cI u g2 i2 a2 (va_A (TW cI u o i a g) sz)) (va_A (TW cI u o i a g) sz)) k2.1 k2.2 ((va_A (TW cI u o i a g) sz)) := by
  refine Met.ofW (cc := b_Machine_goOn) (maxL := 5) (ret := (some .int)) (by decide) rfl ?_
  intro p e s m args below meth c s₁ B hml hv
  obtain ⟨rfl, hsz, hP, hK, hE, hD0⟩ := hv
  have hx := B.exec
  have hb := B.bytes
  have hr := B.returns
  have hts := atoms_spec (ws := w_Machine_goOn) B.pre
  have htt : ∀ w ∈ tw_T, w.before _ s = true := fun w h => hts w (List.mem_cons_of_mem _ h)
  have hown : s.vm.findClass R_Machine = some m.cls := findClass_of_methodNamed B.named
  have hlocks := B.notSynchronized
  subst hsz
  have hD := hD0.self (sz := s.heap.size)
  generalize hAe : (va_A (TW cI u o i a g) s.heap.size) = A at hD hE ⊢
  have hA : ∀ q : Nat, s.heap.size ≤ q → A q := fun q h => by rw [← hAe]; exact Or.inr h
  have hS : va_S A s.heap s.heap [] := va_S.rf
  obtain ⟨mc, ms, emc, ems⟩ : ∃ mc ms : Nat, k2.1 = mc ∧ k2.2 = ms := ⟨_, _, rfl, rfl⟩
  have hkc : 0 + k2.1 = mc := by rw [Nat.zero_add]; exact emc
  have hks : 0 + k2.2 = ms := by rw [Nat.zero_add]; exact ems
  rw [emc, ems]
  clear emc ems
  have hl := lv_entry ([.ref ((u 11)), .int v1]) (n := 5) (Nat.le_of_ble_eq_true rfl)
  rw [lg_entry_eq]
  generalize (lg_sl ([.ref ((u 11)), .int v1]) ++ List.replicate (5 - (lg_sl ([.ref ((u 11)), .int v1])).length) Slot.unset).toArray = ls at hl ⊢
  have hl : lv_has ls 5 [(0, .ref ((u 11))), (1, .int v1)] := hl
  rw [m_Machine_goOn] at hm
  refine lv_iload_n hx hb d_Machine_goOn_0 rfl (lv_at hl 1 rfl) ?_
  refine lv_sipush (v := 20000) hx hb d_Machine_goOn_1 (by decide) ?_
  obtain ⟨r_2, h_1, hm⟩ := ob0_some hm
  have hFc := x_free0 hS hA
  refine xg_calli (va_runS (As := [.int v1, .int 20000]) (rest := []) ⟨hx, hb, hml, hown, hts⟩ (x_Math_min l s.heap.size n h_1) (va_cwS 2 hts (tw_GS tw_cons cw_Math_min lk_Machine_68 st_Math_min ini_Math) rfl rfl rfl hd_Math_min ⟨Nat.le_of_ble_eq_true rfl, Nat.le_of_ble_eq_true rfl⟩) xpS0 rfl rfl hl.1 rfl (lv_room (Nat.le_of_ble_eq_true rfl)) d_Machine_goOn_4 ⟨show 0 + 0 ≤ mc by omega, show 0 + 0 ≤ ms by omega⟩) hS (fun q _ h => hFc q h) hFc (fun kc_3 ks_4 r9 u9 t9 H locs ekc eks ht hvm e9 hB hz1 hk1 hS => ?_)
  replace hkc : kc_3 + k2.1 = mc := by omega
  replace hks : ks_4 + k2.2 = ms := by omega
  clear ekc eks
  have e9 : r_2 = r9 := e9
  subst e9
  replace hP := x_keep hP hk1
  clear hFc hk1 hz1 hvm hB ht
  refine lv_istore_n (lv' := [(2, .int r_2), (0, .ref ((u 11))), (1, .int v1)]) hx hb d_Machine_goOn_7 rfl hl (by decide) rfl (fun ls hl => ?_)
  refine lv_iconst (v := 0) hx hb d_Machine_goOn_8 (by decide) ?_
  refine lv_istore_n (lv' := [(3, .int 0), (2, .int r_2), (0, .ref ((u 11))), (1, .int v1)]) hx hb d_Machine_goOn_9 rfl hl (by decide) rfl (fun ls hl => ?_)
  refine lv_iconst (v := 0) hx hb d_Machine_goOn_10 (by decide) ?_
  refine lv_istore (lv' := [(4, .int 0), (3, .int 0), (2, .int r_2), (0, .ref ((u 11))), (1, .int v1)]) hx hb d_Machine_goOn_11 hl (by decide) rfl (fun ls hl => ?_)
  exact lb_Machine_goOn_13 l dC dI cI adK adV adA u n hx hb hml hown hts hK hE hA hr hlocks n _ _ _ _ _ _ _ hm o kc_3 ks_4 hkc hks _ _ _ hP hD hS (lv_sub hl [3, 2, 1, 0] rfl)

def m_World_define (n : Nat) (g : Nat → Nat) (i : Nat → Int32) (a : Nat → Nat → Int32)  : Option ((Nat → Int32) × (Nat → Nat → Int32) × (Nat → Nat) × (Nat × Nat) × Int32) := if ((i 35)) = ((1 : Int32)) then some (i, a, g, (0, 0), (-20)) else obG (m_Reader_read n g i a (1 : Int32)) (fun i_3 a_4 g_5 r_7 => if r_7 = ((0 : Int32)) then some (i_3, a_4, g_5, (0, 0), -(i_3 26)) else ob (m_Reader_tellAll n g_5 i_3 a_4) (fun i_14 a_15 r_16 => if r_16 ≤ ((0 : Int32)) then some (i_14, a_15, g_5, (0, 0), r_16) else ob1 (upd i_14 3 0 : Nat → Int32) (fun i_20 => some (i_20, a_15, g_5, (0, 0), r_16))))
set_option maxHeartbeats 4000000 in
set_option maxRecDepth 100000 in
theorem x_World_define (l : Launch) (dC : Nat → ClassId) (dI : Nat → Nat → Nat) (cI : ClassId) (adK adV adA u o g : Nat → Nat) (sz : Nat) (n : Nat) {i : Nat → Int32} {a : Nat → Nat → Int32}  {i2 : Nat → Int32} {a2 : Nat → Nat → Int32} {g2 : Nat → Nat} {k2 : Nat × Nat} {r2 : Int32} (hm : m_World_define n g i a = some (i2, a2, g2, k2, r2)) : Met l y_World_define w_World_define ({ frames := 9, cells := k2.1, slots := k2.2, locals := 227 } : Room) (va_Pc [.ref ((u 0))] (xE dC dI cI adK adV adA u o g i a sz)) (va_Qi (xRg r2) (xBg dC dI cI u g2 i2 a2 (va_A (TW cI u o i a g) sz)) (va_A (TW cI u o i a g) sz)) k2.1 k2.2 ((va_A (TW cI u o i a g) sz)) := by
  refine Met.ofW (cc := b_World_define) (maxL := 2) (ret := (some .int)) (by decide) rfl ?_
  intro p e s m args below meth c s₁ B hml hv
  obtain ⟨rfl, hsz, hP, hK, hE, hD0⟩ := hv
  have hx := B.exec
  have hb := B.bytes
  have hr := B.returns
  have hts := atoms_spec (ws := w_World_define) B.pre
  have htt : ∀ w ∈ tw_T, w.before _ s = true := fun w h => hts w (List.mem_cons_of_mem _ h)
  have hown : s.vm.findClass R_World = some m.cls := findClass_of_methodNamed B.named
  have hlocks := B.notSynchronized
  subst hsz
  have hD := hD0.self (sz := s.heap.size)
  generalize hAe : (va_A (TW cI u o i a g) s.heap.size) = A at hD hE ⊢
  have hA : ∀ q : Nat, s.heap.size ≤ q → A q := fun q h => by rw [← hAe]; exact Or.inr h
  have hS : va_S A s.heap s.heap [] := va_S.rf
  obtain ⟨mc, ms, emc, ems⟩ : ∃ mc ms : Nat, k2.1 = mc ∧ k2.2 = ms := ⟨_, _, rfl, rfl⟩
  have hkc : 0 + k2.1 = mc := by rw [Nat.zero_add]; exact emc
  have hks : 0 + k2.2 = ms := by rw [Nat.zero_add]; exact ems
  rw [emc, ems]
  clear emc ems
  have hl := lv_entry ([.ref ((u 0))]) (n := 2) (Nat.le_of_ble_eq_true rfl)
  rw [lg_entry_eq]
  generalize (lg_sl ([.ref ((u 0))]) ++ List.replicate (2 - (lg_sl ([.ref ((u 0))])).length) Slot.unset).toArray = ls at hl ⊢
  have hl : lv_has ls 2 [(0, .ref ((u 0)))] := hl
  rw [m_World_define] at hm
  refine lv_aload_n hx hb d_World_define_0 rfl (lv_at hl 0 rfl) ?_
  refine va_get (D := (dC, dI)) (ci := 0) (v := .ref ((u 8))) (C := R_World) (T := F_World) (N := 13) hx hb htt iw_World hown hK hP 0 xo_0 rfl 6 (Nat.le_of_ble_eq_true rfl) (htt _ lk_World_63) (fun _ h9 => h9) xg_0_6 d_World_define_1 ?_
  refine va_get (D := (dC, dI)) (ci := 8) (v := .int (i 35)) (C := R_Line) (T := F_Line) (N := 18) hx hb htt iw_Line hown hK hP 8 xo_8 rfl 1 (Nat.le_of_ble_eq_true rfl) (htt _ lk_World_100) (fun _ h9 => h9) xg_8_1 d_World_define_4 ?_
  refine lv_iconst (v := 1) hx hb d_World_define_7 (by decide) ?_
  refine lv_icmp_ne (tgt := 14) hx hb d_World_define_8 (by decide) (fun c_1 => ?_) (fun c_1 => ?_)
  · replace hm := if_f c_1 hm
    refine lv_aload_n hx hb d_World_define_14 rfl (lv_at hl 0 rfl) ?_
    refine va_get (D := (dC, dI)) (ci := 0) (v := .ref ((u 7))) (C := R_World) (T := F_World) (N := 13) hx hb htt iw_World hown hK hP 0 xo_0 rfl 5 (Nat.le_of_ble_eq_true rfl) (htt _ lk_World_56) (fun _ h9 => h9) xg_0_5 d_World_define_15 ?_
    refine lv_iconst (v := 1) hx hb d_World_define_18 (by decide) ?_
    obtain ⟨i_3, a_4, g_5, k_6, r_7, k_8, h_2, hm, e7, e8⟩ := obG_some hm
    have hFc := x_free hD hS hA
    refine xg_calli (va_runV (As := [.int 1]) (rest := []) ⟨hx, hb, hml, hown, hts⟩ (x_Reader_read l dC dI cI adK adV adA u o g s.heap.size n h_2) (cwV 1 hts (tw_GV tw_cons cw_Reader_read lk_World_104 in_Reader_read sel_Reader_read ini_Reader) rfl rfl rfl ⟨rfl, hd_Reader_read⟩ ⟨Nat.le_of_ble_eq_true rfl, Nat.le_of_ble_eq_true rfl⟩) (xpV hK hP hD hS hE hFc xo_7 rfl) rfl rfl hl.1 rfl (lv_room (Nat.le_of_ble_eq_true rfl)) d_World_define_19 ⟨show 0 + k_6.1 ≤ mc by omega, show 0 + k_6.2 ≤ ms by omega⟩) hS (fun q _ h => hFc q h) hFc (fun kc_10 ks_11 r9 o_9 t9 H locs ekc eks ht hvm e9 hB hz1 hk1 hS => ?_)
    replace hkc : kc_10 + k_8.1 = mc := by omega
    replace hks : ks_11 + k_8.2 = ms := by omega
    clear e7 e8
    clear ekc eks
    have e9 : r_7 = r9 := e9
    subst e9
    obtain ⟨hP, hD⟩ := x_aftg hB ht hFc
    clear hFc hk1 hz1 hvm hB ht
    refine lv_if_ne (tgt := 34) hx hb d_World_define_22 (by decide) (fun c_12 => ?_) (fun c_12 => ?_)
    · replace hm := if_f c_12 hm
      refine lv_aload_n hx hb d_World_define_34 rfl (lv_at hl 0 rfl) ?_
      refine va_get (D := (dC, dI)) (ci := 0) (v := .ref ((u 7))) (C := R_World) (T := F_World) (N := 13) hx hb htt iw_World hown hK hP 0 xo_0 rfl 5 (Nat.le_of_ble_eq_true rfl) (htt _ lk_World_56) (fun _ h9 => h9) xg_0_5 d_World_define_35 ?_
      obtain ⟨i_14, a_15, r_16, h_13, hm⟩ := ob_some hm
      have hFc := x_free hD hS hA
      refine xg_calli (va_runV (As := []) (rest := []) ⟨hx, hb, hml, hown, hts⟩ (x_Reader_tellAll l dC dI cI adK adV adA u o_9 g_5 H.size n h_13) (cwV 0 hts (tw_GV tw_cons cw_Reader_tellAll lk_World_111 in_Reader_tellAll sel_Reader_tellAll ini_Reader) rfl rfl rfl ⟨rfl, hd_Reader_tellAll⟩ ⟨Nat.le_of_ble_eq_true rfl, Nat.le_of_ble_eq_true rfl⟩) (xpV hK hP hD hS hE hFc xo_7 rfl) rfl rfl hl.1 rfl (lv_room (Nat.le_of_ble_eq_true rfl)) d_World_define_38 ⟨show kc_10 + 0 ≤ mc by omega, show ks_11 + 0 ≤ ms by omega⟩) hS (fun q _ h => hFc q h) hFc (fun kc_17 ks_18 r9 u9 t9 H locs ekc eks ht hvm e9 hB hz1 hk1 hS => ?_)
      replace hkc : kc_17 + k_8.1 = mc := by omega
      replace hks : ks_18 + k_8.2 = ms := by omega
      clear ekc eks
      have e9 : r_16 = r9 := e9
      subst e9
      obtain ⟨hP, hD⟩ := x_aft hB ht hFc
      clear hFc hk1 hz1 hvm hB ht
      refine lv_istore_n (lv' := [(1, .int r_16), (0, .ref ((u 0)))]) hx hb d_World_define_41 rfl hl (by decide) rfl (fun ls hl => ?_)
      refine lv_iload_n hx hb d_World_define_42 rfl (lv_at hl 0 rfl) ?_
      refine lv_if_le (tgt := 51) hx hb d_World_define_43 (by decide) (fun c_19 => ?_) (fun c_19 => ?_)
      · replace hm := if_t c_19 hm
        refine lv_iload_n hx hb d_World_define_51 rfl (lv_at hl 0 rfl) ?_
        obtain ⟨e1, e2, e4, e5, e6, e3⟩ := re5 hm
        obtain ⟨hP, hD⟩ := x_eqg e1 e2 e4 hP hD
        refine W.widen (k := mc) (n := ms) (show kc_17 ≤ mc by omega) (show ks_18 ≤ ms by omega) ?_
        exact W.iret hx hb hr (fun t9 ht hW => ⟨⟨_, o_9, rfl, e3.symm, by rw [ht]; exact hP, hD⟩, hS.F ht⟩) hS.2.2 d_World_define_52
      · replace hm := if_f c_19 hm
        refine lv_aload_n hx hb d_World_define_46 rfl (lv_at hl 1 rfl) ?_
        refine lv_iconst (v := 0) hx hb d_World_define_47 (by decide) ?_
        refine va_put (D := (dC, dI)) (ci := 0) (v := .int 0) (ty := .boolean) (C := R_World) (T := F_World) (N := 13) hx hb htt iw_World t_World t_World_ok n_World hown hK hP hD hS 0 xo_0 rfl 12 (Nat.le_of_ble_eq_true rfl) (htt _ lk_World_115) (fun _ h9 => h9) rfl (by decide +kernel) (by decide) rfl xl_0_12 d_World_define_48 (fun H locs hP hD hS => ?_)
        obtain ⟨i_20, ei_20⟩ : ∃ y9 : Nat → Int32, y9 = upd i_14 3 0 := ⟨_, rfl⟩
        replace hm := ob1_at ei_20 hm
        obtain ⟨hP, hD⟩ := xw_3 ei_20 hP hD
        refine lv_iload_n hx hb d_World_define_51 rfl (lv_at hl 0 rfl) ?_
        obtain ⟨e1, e2, e4, e5, e6, e3⟩ := re5 hm
        obtain ⟨hP, hD⟩ := x_eqg e1 e2 e4 hP hD
        refine W.widen (k := mc) (n := ms) (show kc_17 ≤ mc by omega) (show ks_18 ≤ ms by omega) ?_
        exact W.iret hx hb hr (fun t9 ht hW => ⟨⟨_, o_9, rfl, e3.symm, by rw [ht]; exact hP, hD⟩, hS.F ht⟩) hS.2.2 d_World_define_52
    · replace hm := if_t c_12 hm
      refine lv_aload_n hx hb d_World_define_25 rfl (lv_at hl 0 rfl) ?_
      refine va_get (D := (dC, dI)) (ci := 0) (v := .ref ((u 7))) (C := R_World) (T := F_World) (N := 13) hx hb htt iw_World hown hK hP 0 xo_0 rfl 5 (Nat.le_of_ble_eq_true rfl) (htt _ lk_World_56) (fun _ h9 => h9) xg_0_5 d_World_define_26 ?_
      refine va_get (D := (dC, dI)) (ci := 7) (v := .int (i_3 26)) (C := R_Reader) (T := F_Reader) (N := 19) hx hb htt iw_Reader hown hK hP 7 xo_7 rfl 5 (Nat.le_of_ble_eq_true rfl) (htt _ lk_World_108) (fun _ h9 => h9) xg_7_5 d_World_define_29 ?_
      refine lv_ineg hx hb d_World_define_32 ?_
      obtain ⟨e1, e2, e4, e5, e6, e3⟩ := re5 hm
      obtain ⟨hP, hD⟩ := x_eqg e1 e2 e4 hP hD
      refine W.widen (k := mc) (n := ms) (show kc_10 ≤ mc by omega) (show ks_11 ≤ ms by omega) ?_
      exact W.iret hx hb hr (fun t9 ht hW => ⟨⟨_, o_9, rfl, e3.symm, by rw [ht]; exact hP, hD⟩, hS.F ht⟩) hS.2.2 d_World_define_33
  · replace hm := if_t c_1 hm
    refine lv_bipush (v := -20) hx hb d_World_define_11 (by decide) ?_
    obtain ⟨e1, e2, e4, e5, e6, e3⟩ := re5 hm
    obtain ⟨hP, hD⟩ := x_eqg e1 e2 e4 hP hD
    refine W.widen (k := mc) (n := ms) (show 0 ≤ mc by omega) (show 0 ≤ ms by omega) ?_
    exact W.iret hx hb hr (fun t9 ht hW => ⟨⟨_, o, rfl, e3.symm, by rw [ht]; exact hP, hD⟩, hS.F ht⟩) hS.2.2 d_World_define_13

def m_World_line (n : Nat) (g : Nat → Nat) (i : Nat → Int32) (a : Nat → Nat → Int32)  : Option ((Nat → Int32) × (Nat → Nat → Int32) × (Nat → Nat) × (Nat × Nat) × Int32) := if ((i 35)) = ((1 : Int32)) then some (i, a, g, (0, 0), (-20)) else obG (m_Reader_read n g i a (0 : Int32)) (fun i_3 a_4 g_5 r_7 => if r_7 = ((0 : Int32)) then some (i_3, a_4, g_5, (0, 0), -(i_3 26)) else obG (m_World_collect n g_5 i_3 a_4) (fun i_14 a_15 g_16 r_18 => ob (m_World_keep n g_16 i_14 a_15) (fun i_24 a_25 r_26 => obG (m_Machine_begin n g_16 i_24 a_25 (i_24 0)) (fun i_30 a_31 g_32 r_34 => ob0 (m_Heap_count n g_32 i_30 a_31 (i_30 0)) (fun r_40 => some (i_30, a_31, g_32, (0, 0), r_40))))))
set_option maxHeartbeats 4000000 in
set_option maxRecDepth 100000 in
theorem x_World_line (l : Launch) (dC : Nat → ClassId) (dI : Nat → Nat → Nat) (cI : ClassId) (adK adV adA u o g : Nat → Nat) (sz : Nat) (n : Nat) {i : Nat → Int32} {a : Nat → Nat → Int32}  {i2 : Nat → Int32} {a2 : Nat → Nat → Int32} {g2 : Nat → Nat} {k2 : Nat × Nat} {r2 : Int32} (hm : m_World_line n g i a = some (i2, a2, g2, k2, r2)) : Met l y_World_line w_World_line ({ frames := 9, cells := k2.1, slots := k2.2, locals := 227 } : Room) (va_Pc [.ref ((u 0))] (xE dC dI cI adK adV adA u o g i a sz)) (va_Qi (xRg r2) (xBg dC dI cI u g2 i2 a2 (va_A (TW cI u o i a g) sz)) (va_A (TW cI u o i a g) sz)) k2.1 k2.2 ((va_A (TW cI u o i a g) sz)) := by
  refine Met.ofW (cc := b_World_line) (maxL := 1) (ret := (some .int)) (by decide) rfl ?_
  intro p e s m args below meth c s₁ B hml hv
  obtain ⟨rfl, hsz, hP, hK, hE, hD0⟩ := hv
  have hx := B.exec
  have hb := B.bytes
  have hr := B.returns
  have hts := atoms_spec (ws := w_World_line) B.pre
  have htt : ∀ w ∈ tw_T, w.before _ s = true := fun w h => hts w (List.mem_cons_of_mem _ h)
  have hown : s.vm.findClass R_World = some m.cls := findClass_of_methodNamed B.named
  have hlocks := B.notSynchronized
  subst hsz
  have hD := hD0.self (sz := s.heap.size)
  generalize hAe : (va_A (TW cI u o i a g) s.heap.size) = A at hD hE ⊢
  have hA : ∀ q : Nat, s.heap.size ≤ q → A q := fun q h => by rw [← hAe]; exact Or.inr h
  have hS : va_S A s.heap s.heap [] := va_S.rf
  obtain ⟨mc, ms, emc, ems⟩ : ∃ mc ms : Nat, k2.1 = mc ∧ k2.2 = ms := ⟨_, _, rfl, rfl⟩
  have hkc : 0 + k2.1 = mc := by rw [Nat.zero_add]; exact emc
  have hks : 0 + k2.2 = ms := by rw [Nat.zero_add]; exact ems
  rw [emc, ems]
  clear emc ems
  have hl := lv_entry ([.ref ((u 0))]) (n := 1) (Nat.le_of_ble_eq_true rfl)
  rw [lg_entry_eq]
  generalize (lg_sl ([.ref ((u 0))]) ++ List.replicate (1 - (lg_sl ([.ref ((u 0))])).length) Slot.unset).toArray = ls at hl ⊢
  have hl : lv_has ls 1 [(0, .ref ((u 0)))] := hl
  rw [m_World_line] at hm
  refine lv_aload_n hx hb d_World_line_0 rfl (lv_at hl 0 rfl) ?_
  refine va_get (D := (dC, dI)) (ci := 0) (v := .ref ((u 8))) (C := R_World) (T := F_World) (N := 13) hx hb htt iw_World hown hK hP 0 xo_0 rfl 6 (Nat.le_of_ble_eq_true rfl) (htt _ lk_World_63) (fun _ h9 => h9) xg_0_6 d_World_line_1 ?_
  refine va_get (D := (dC, dI)) (ci := 8) (v := .int (i 35)) (C := R_Line) (T := F_Line) (N := 18) hx hb htt iw_Line hown hK hP 8 xo_8 rfl 1 (Nat.le_of_ble_eq_true rfl) (htt _ lk_World_100) (fun _ h9 => h9) xg_8_1 d_World_line_4 ?_
  refine lv_iconst (v := 1) hx hb d_World_line_7 (by decide) ?_
  refine lv_icmp_ne (tgt := 14) hx hb d_World_line_8 (by decide) (fun c_1 => ?_) (fun c_1 => ?_)
  · replace hm := if_f c_1 hm
    refine lv_aload_n hx hb d_World_line_14 rfl (lv_at hl 0 rfl) ?_
    refine va_get (D := (dC, dI)) (ci := 0) (v := .ref ((u 7))) (C := R_World) (T := F_World) (N := 13) hx hb htt iw_World hown hK hP 0 xo_0 rfl 5 (Nat.le_of_ble_eq_true rfl) (htt _ lk_World_56) (fun _ h9 => h9) xg_0_5 d_World_line_15 ?_
    refine lv_iconst (v := 0) hx hb d_World_line_18 (by decide) ?_
    obtain ⟨i_3, a_4, g_5, k_6, r_7, k_8, h_2, hm, e7, e8⟩ := obG_some hm
    have hFc := x_free hD hS hA
    refine xg_calli (va_runV (As := [.int 0]) (rest := []) ⟨hx, hb, hml, hown, hts⟩ (x_Reader_read l dC dI cI adK adV adA u o g s.heap.size n h_2) (cwV 1 hts (tw_GV tw_cons cw_Reader_read lk_World_104 in_Reader_read sel_Reader_read ini_Reader) rfl rfl rfl ⟨rfl, hd_Reader_read⟩ ⟨Nat.le_of_ble_eq_true rfl, Nat.le_of_ble_eq_true rfl⟩) (xpV hK hP hD hS hE hFc xo_7 rfl) rfl rfl hl.1 rfl (lv_room (Nat.le_of_ble_eq_true rfl)) d_World_line_19 ⟨show 0 + k_6.1 ≤ mc by omega, show 0 + k_6.2 ≤ ms by omega⟩) hS (fun q _ h => hFc q h) hFc (fun kc_10 ks_11 r9 o_9 t9 H locs ekc eks ht hvm e9 hB hz1 hk1 hS => ?_)
    replace hkc : kc_10 + k_8.1 = mc := by omega
    replace hks : ks_11 + k_8.2 = ms := by omega
    clear e7 e8
    clear ekc eks
    have e9 : r_7 = r9 := e9
    subst e9
    obtain ⟨hP, hD⟩ := x_aftg hB ht hFc
    clear hFc hk1 hz1 hvm hB ht
    refine lv_if_ne (tgt := 34) hx hb d_World_line_22 (by decide) (fun c_12 => ?_) (fun c_12 => ?_)
    · replace hm := if_f c_12 hm
      refine lv_aload_n hx hb d_World_line_34 rfl (lv_at hl 0 rfl) ?_
      obtain ⟨i_14, a_15, g_16, k_17, r_18, k_19, h_13, hm, e7, e8⟩ := obG_some hm
      have hFc := x_free hD hS hA
      refine xg_callv (va_runV (As := []) (rest := []) ⟨hx, hb, hml, hown, hts⟩ (x_World_collect l dC dI cI adK adV adA u o_9 g_5 H.size n h_13) (cwV 0 hts (tw_GV tw_cons cw_World_collect lk_World_119 in_World_collect sel_World_collect ini_World) rfl rfl rfl ⟨rfl, hd_World_collect⟩ ⟨Nat.le_of_ble_eq_true rfl, Nat.le_of_ble_eq_true rfl⟩) (xpV hK hP hD hS hE hFc xo_0 rfl) rfl rfl hl.1 rfl (lv_room (Nat.le_of_ble_eq_true rfl)) d_World_line_35 ⟨show kc_10 + k_17.1 ≤ mc by omega, show ks_11 + k_17.2 ≤ ms by omega⟩) hS (fun q _ h => hFc q h) hFc (fun kc_21 ks_22 o_20 t9 H locs ekc eks ht hvm e9 hB hz1 hk1 hS => ?_)
      replace hkc : kc_21 + k_19.1 = mc := by omega
      replace hks : ks_22 + k_19.2 = ms := by omega
      clear e7 e8
      clear ekc eks
      obtain ⟨hP, hD⟩ := x_aftg hB ht hFc
      clear hFc hk1 hz1 hvm hB ht
      refine lv_aload_n hx hb d_World_line_38 rfl (lv_at hl 0 rfl) ?_
      obtain ⟨i_24, a_25, r_26, h_23, hm⟩ := ob_some hm
      have hFc := x_free hD hS hA
      refine xg_callv (va_runV (As := []) (rest := []) ⟨hx, hb, hml, hown, hts⟩ (x_World_keep l dC dI cI adK adV adA u o_20 g_16 H.size n h_23) (cwV 0 hts (tw_GV tw_cons cw_World_keep lk_World_122 in_World_keep sel_World_keep ini_World) rfl rfl rfl ⟨rfl, hd_World_keep⟩ ⟨Nat.le_of_ble_eq_true rfl, Nat.le_of_ble_eq_true rfl⟩) (xpV hK hP hD hS hE hFc xo_0 rfl) rfl rfl hl.1 rfl (lv_room (Nat.le_of_ble_eq_true rfl)) d_World_line_39 ⟨show kc_21 + 0 ≤ mc by omega, show ks_22 + 0 ≤ ms by omega⟩) hS (fun q _ h => hFc q h) hFc (fun kc_27 ks_28 u9 t9 H locs ekc eks ht hvm e9 hB hz1 hk1 hS => ?_)
      replace hkc : kc_27 + k_19.1 = mc := by omega
      replace hks : ks_28 + k_19.2 = ms := by omega
      clear ekc eks
      obtain ⟨hP, hD⟩ := x_aft hB ht hFc
      clear hFc hk1 hz1 hvm hB ht
      refine lv_aload_n hx hb d_World_line_42 rfl (lv_at hl 0 rfl) ?_
      refine va_get (D := (dC, dI)) (ci := 0) (v := .ref ((u 11))) (C := R_World) (T := F_World) (N := 13) hx hb htt iw_World hown hK hP 0 xo_0 rfl 8 (Nat.le_of_ble_eq_true rfl) (htt _ lk_World_84) (fun _ h9 => h9) xg_0_8 d_World_line_43 ?_
      refine lv_aload_n hx hb d_World_line_46 rfl (lv_at hl 0 rfl) ?_
      refine va_get (D := (dC, dI)) (ci := 0) (v := .int (i_24 0)) (C := R_World) (T := F_World) (N := 13) hx hb htt iw_World hown hK hP 0 xo_0 rfl 9 (Nat.le_of_ble_eq_true rfl) (htt _ lk_World_125) (fun _ h9 => h9) xg_0_9 d_World_line_47 ?_
      obtain ⟨i_30, a_31, g_32, k_33, r_34, k_35, h_29, hm, e7, e8⟩ := obG_some hm
      have hFc := x_free hD hS hA
      refine xg_callv (va_runV (As := [.int (i_24 0)]) (rest := []) ⟨hx, hb, hml, hown, hts⟩ (x_Machine_begin l dC dI cI adK adV adA u o_20 g_16 H.size n h_29) (cwV 1 hts (tw_GV tw_cons cw_Machine_begin lk_World_128 in_Machine_begin sel_Machine_begin ini_Machine) rfl rfl rfl ⟨rfl, hd_Machine_begin⟩ ⟨Nat.le_of_ble_eq_true rfl, Nat.le_of_ble_eq_true rfl⟩) (xpV hK hP hD hS hE hFc xo_11 rfl) rfl rfl hl.1 rfl (lv_room (Nat.le_of_ble_eq_true rfl)) d_World_line_50 ⟨show kc_27 + k_33.1 ≤ mc by omega, show ks_28 + k_33.2 ≤ ms by omega⟩) hS (fun q _ h => hFc q h) hFc (fun kc_37 ks_38 o_36 t9 H locs ekc eks ht hvm e9 hB hz1 hk1 hS => ?_)
      replace hkc : kc_37 + k_35.1 = mc := by omega
      replace hks : ks_38 + k_35.2 = ms := by omega
      clear e7 e8
      clear ekc eks
      obtain ⟨hP, hD⟩ := x_aftg hB ht hFc
      clear hFc hk1 hz1 hvm hB ht
      refine lv_aload_n hx hb d_World_line_53 rfl (lv_at hl 0 rfl) ?_
      refine va_get (D := (dC, dI)) (ci := 0) (v := .ref ((u 1))) (C := R_World) (T := F_World) (N := 13) hx hb htt iw_World hown hK hP 0 xo_0 rfl 0 (Nat.le_of_ble_eq_true rfl) (htt _ lk_World_17) (fun _ h9 => h9) xg_0_0 d_World_line_54 ?_
      refine lv_aload_n hx hb d_World_line_57 rfl (lv_at hl 0 rfl) ?_
      refine va_get (D := (dC, dI)) (ci := 0) (v := .int (i_30 0)) (C := R_World) (T := F_World) (N := 13) hx hb htt iw_World hown hK hP 0 xo_0 rfl 9 (Nat.le_of_ble_eq_true rfl) (htt _ lk_World_125) (fun _ h9 => h9) xg_0_9 d_World_line_58 ?_
      obtain ⟨r_40, h_39, hm⟩ := ob0_some hm
      have hFc := x_free0 hS hA
      refine xg_calli (va_runV (As := [.int (i_30 0)]) (rest := []) ⟨hx, hb, hml, hown, hts⟩ (x_Heap_count l dC dI cI adK adV adA u o_36 g_32 H.size n h_39) (cwV 1 hts (tw_GV tw_cons cw_Heap_count lk_World_131 in_Heap_count sel_Heap_count ini_Heap) rfl rfl rfl ⟨rfl, hd_Heap_count⟩ ⟨Nat.le_of_ble_eq_true rfl, Nat.le_of_ble_eq_true rfl⟩) (xpVr hK hP hS hE hFc xo_1 rfl) rfl rfl hl.1 rfl (lv_room (Nat.le_of_ble_eq_true rfl)) d_World_line_61 ⟨show kc_37 + 0 ≤ mc by omega, show ks_38 + 0 ≤ ms by omega⟩) hS (fun q _ h => hFc q h) hFc (fun kc_41 ks_42 r9 u9 t9 H locs ekc eks ht hvm e9 hB hz1 hk1 hS => ?_)
      replace hkc : kc_41 + k_35.1 = mc := by omega
      replace hks : ks_42 + k_35.2 = ms := by omega
      clear ekc eks
      have e9 : r_40 = r9 := e9
      subst e9
      replace hP := x_keep hP hk1
      clear hFc hk1 hz1 hvm hB ht
      obtain ⟨e1, e2, e4, e5, e6, e3⟩ := re5 hm
      obtain ⟨hP, hD⟩ := x_eqg e1 e2 e4 hP hD
      refine W.widen (k := mc) (n := ms) (show kc_41 ≤ mc by omega) (show ks_42 ≤ ms by omega) ?_
      exact W.iret hx hb hr (fun t9 ht hW => ⟨⟨_, o_36, rfl, e3.symm, by rw [ht]; exact hP, hD⟩, hS.F ht⟩) hS.2.2 d_World_line_64
    · replace hm := if_t c_12 hm
      refine lv_aload_n hx hb d_World_line_25 rfl (lv_at hl 0 rfl) ?_
      refine va_get (D := (dC, dI)) (ci := 0) (v := .ref ((u 7))) (C := R_World) (T := F_World) (N := 13) hx hb htt iw_World hown hK hP 0 xo_0 rfl 5 (Nat.le_of_ble_eq_true rfl) (htt _ lk_World_56) (fun _ h9 => h9) xg_0_5 d_World_line_26 ?_
      refine va_get (D := (dC, dI)) (ci := 7) (v := .int (i_3 26)) (C := R_Reader) (T := F_Reader) (N := 19) hx hb htt iw_Reader hown hK hP 7 xo_7 rfl 5 (Nat.le_of_ble_eq_true rfl) (htt _ lk_World_108) (fun _ h9 => h9) xg_7_5 d_World_line_29 ?_
      refine lv_ineg hx hb d_World_line_32 ?_
      obtain ⟨e1, e2, e4, e5, e6, e3⟩ := re5 hm
      obtain ⟨hP, hD⟩ := x_eqg e1 e2 e4 hP hD
      refine W.widen (k := mc) (n := ms) (show kc_10 ≤ mc by omega) (show ks_11 ≤ ms by omega) ?_
      exact W.iret hx hb hr (fun t9 ht hW => ⟨⟨_, o_9, rfl, e3.symm, by rw [ht]; exact hP, hD⟩, hS.F ht⟩) hS.2.2 d_World_line_33
  · replace hm := if_t c_1 hm
    refine lv_bipush (v := -20) hx hb d_World_line_11 (by decide) ?_
    obtain ⟨e1, e2, e4, e5, e6, e3⟩ := re5 hm
    obtain ⟨hP, hD⟩ := x_eqg e1 e2 e4 hP hD
    refine W.widen (k := mc) (n := ms) (show 0 ≤ mc by omega) (show 0 ≤ ms by omega) ?_
    exact W.iret hx hb hr (fun t9 ht hW => ⟨⟨_, o, rfl, e3.symm, by rw [ht]; exact hP, hD⟩, hS.F ht⟩) hS.2.2 d_World_line_13

def m_World_run (n : Nat) (g : Nat → Nat) (i : Nat → Int32) (a : Nat → Nat → Int32) (v1 : Int32) : Option ((Nat → Int32) × (Nat → Nat → Int32) × (Nat → Nat) × (Nat × Nat) × Int32) := obG (m_Machine_goOn n g i a v1) (fun i_2 a_3 g_4 r_6 => some (i_2, a_3, g_4, (0, 0), r_6))
set_option maxHeartbeats 4000000 in
set_option maxRecDepth 100000 in
theorem x_World_run (l : Launch) (dC : Nat → ClassId) (dI : Nat → Nat → Nat) (cI : ClassId) (adK adV adA u o g : Nat → Nat) (sz : Nat) (n : Nat) {i : Nat → Int32} {a : Nat → Nat → Int32} {v1 : Int32} {i2 : Nat → Int32} {a2 : Nat → Nat → Int32} {g2 : Nat → Nat} {k2 : Nat × Nat} {r2 : Int32} (hm : m_World_run n g i a v1 = some (i2, a2, g2, k2, r2)) : Met l y_World_run w_World_run ({ frames := 9, cells := k2.1, slots := k2.2, locals := 229 } : Room) (va_Pc [.ref ((u 0)), .int v1] (xE dC dI cI adK adV adA u o g i a sz)) (va_Qi (xRg r2) (xBg dC dI cI u g2 i2 a2 (va_A (TW cI u o i a g) sz)) (va_A (TW cI u o i a g) sz)) k2.1 k2.2 ((va_A (TW cI u o i a g) sz)) := by
  refine Met.ofW (cc := b_World_run) (maxL := 2) (ret := (some .int)) (by decide) rfl ?_
  intro p e s m args below meth c s₁ B hml hv
  obtain ⟨rfl, hsz, hP, hK, hE, hD0⟩ := hv
  have hx := B.exec
  have hb := B.bytes
  have hr := B.returns
  have hts := atoms_spec (ws := w_World_run) B.pre
  have htt : ∀ w ∈ tw_T, w.before _ s = true := fun w h => hts w (List.mem_cons_of_mem _ h)
  have hown : s.vm.findClass R_World = some m.cls := findClass_of_methodNamed B.named
  have hlocks := B.notSynchronized
  subst hsz
  have hD := hD0.self (sz := s.heap.size)
  generalize hAe : (va_A (TW cI u o i a g) s.heap.size) = A at hD hE ⊢
  have hA : ∀ q : Nat, s.heap.size ≤ q → A q := fun q h => by rw [← hAe]; exact Or.inr h
  have hS : va_S A s.heap s.heap [] := va_S.rf
  obtain ⟨mc, ms, emc, ems⟩ : ∃ mc ms : Nat, k2.1 = mc ∧ k2.2 = ms := ⟨_, _, rfl, rfl⟩
  have hkc : 0 + k2.1 = mc := by rw [Nat.zero_add]; exact emc
  have hks : 0 + k2.2 = ms := by rw [Nat.zero_add]; exact ems
  rw [emc, ems]
  clear emc ems
  have hl := lv_entry ([.ref ((u 0)), .int v1]) (n := 2) (Nat.le_of_ble_eq_true rfl)
  rw [lg_entry_eq]
  generalize (lg_sl ([.ref ((u 0)), .int v1]) ++ List.replicate (2 - (lg_sl ([.ref ((u 0)), .int v1])).length) Slot.unset).toArray = ls at hl ⊢
  have hl : lv_has ls 2 [(0, .ref ((u 0))), (1, .int v1)] := hl
  rw [m_World_run] at hm
  refine lv_aload_n hx hb d_World_run_0 rfl (lv_at hl 0 rfl) ?_
  refine va_get (D := (dC, dI)) (ci := 0) (v := .ref ((u 11))) (C := R_World) (T := F_World) (N := 13) hx hb htt iw_World hown hK hP 0 xo_0 rfl 8 (Nat.le_of_ble_eq_true rfl) (htt _ lk_World_84) (fun _ h9 => h9) xg_0_8 d_World_run_1 ?_
  refine lv_iload_n hx hb d_World_run_4 rfl (lv_at hl 1 rfl) ?_
  obtain ⟨i_2, a_3, g_4, k_5, r_6, k_7, h_1, hm, e7, e8⟩ := obG_some hm
  have hFc := x_free hD hS hA
  refine xg_calli (va_runV (As := [.int v1]) (rest := []) ⟨hx, hb, hml, hown, hts⟩ (x_Machine_goOn l dC dI cI adK adV adA u o g s.heap.size n h_1) (cwV 1 hts (tw_GV tw_cons cw_Machine_goOn lk_World_138 in_Machine_goOn sel_Machine_goOn ini_Machine) rfl rfl rfl ⟨rfl, hd_Machine_goOn⟩ ⟨Nat.le_of_ble_eq_true rfl, Nat.le_of_ble_eq_true rfl⟩) (xpV hK hP hD hS hE hFc xo_11 rfl) rfl rfl hl.1 rfl (lv_room (Nat.le_of_ble_eq_true rfl)) d_World_run_5 ⟨show 0 + k_5.1 ≤ mc by omega, show 0 + k_5.2 ≤ ms by omega⟩) hS (fun q _ h => hFc q h) hFc (fun kc_9 ks_10 r9 o_8 t9 H locs ekc eks ht hvm e9 hB hz1 hk1 hS => ?_)
  replace hkc : kc_9 + k_7.1 = mc := by omega
  replace hks : ks_10 + k_7.2 = ms := by omega
  clear e7 e8
  clear ekc eks
  have e9 : r_6 = r9 := e9
  subst e9
  obtain ⟨hP, hD⟩ := x_aftg hB ht hFc
  clear hFc hk1 hz1 hvm hB ht
  obtain ⟨e1, e2, e4, e5, e6, e3⟩ := re5 hm
  obtain ⟨hP, hD⟩ := x_eqg e1 e2 e4 hP hD
  refine W.widen (k := mc) (n := ms) (show kc_9 ≤ mc by omega) (show ks_10 ≤ ms by omega) ?_
  exact W.iret hx hb hr (fun t9 ht hW => ⟨⟨_, o_8, rfl, e3.symm, by rw [ht]; exact hP, hD⟩, hS.F ht⟩) hS.2.2 d_World_run_8

def m_World_go (n : Nat) (g : Nat → Nat) (i : Nat → Int32) (a : Nat → Nat → Int32) (v1 : Int32) : Option ((Nat → Int32) × (Nat → Nat → Int32) × (Nat → Nat) × (Nat × Nat) × Int32) := if ((i 3)) = ((0 : Int32)) then some (i, a, g, (0, 0), 0) else if v1 < ((0 : Int32)) then some (i, a, g, (0, 0), 0) else if v1 ≤ ((i 37)) then ob (m_World_takeBack n g i a) (fun i_5 a_6 r_7 => obG (m_Machine_begin n g i_5 a_6 (i_5 0)) (fun i_11 a_12 g_13 r_15 => obG (m_Machine_goOn n g_13 i_11 a_12 v1) (fun i_21 a_22 g_23 r_25 => some (i_21, a_22, g_23, (0, 0), 1)))) else some (i, a, g, (0, 0), 0)
set_option maxHeartbeats 4000000 in
set_option maxRecDepth 100000 in
theorem x_World_go (l : Launch) (dC : Nat → ClassId) (dI : Nat → Nat → Nat) (cI : ClassId) (adK adV adA u o g : Nat → Nat) (sz : Nat) (n : Nat) {i : Nat → Int32} {a : Nat → Nat → Int32} {v1 : Int32} {i2 : Nat → Int32} {a2 : Nat → Nat → Int32} {g2 : Nat → Nat} {k2 : Nat × Nat} {r2 : Int32} (hm : m_World_go n g i a v1 = some (i2, a2, g2, k2, r2)) : Met l y_World_go w_World_go ({ frames := 9, cells := k2.1, slots := k2.2, locals := 229 } : Room) (va_Pc [.ref ((u 0)), .int v1] (xE dC dI cI adK adV adA u o g i a sz)) (va_Qi (xRg r2) (xBg dC dI cI u g2 i2 a2 (va_A (TW cI u o i a g) sz)) (va_A (TW cI u o i a g) sz)) k2.1 k2.2 ((va_A (TW cI u o i a g) sz)) := by
  refine Met.ofW (cc := b_World_go) (maxL := 2) (ret := (some .boolean)) (by decide) rfl ?_
  intro p e s m args below meth c s₁ B hml hv
  obtain ⟨rfl, hsz, hP, hK, hE, hD0⟩ := hv
  have hx := B.exec
  have hb := B.bytes
  have hr := B.returns
  have hts := atoms_spec (ws := w_World_go) B.pre
  have htt : ∀ w ∈ tw_T, w.before _ s = true := fun w h => hts w (List.mem_cons_of_mem _ h)
  have hown : s.vm.findClass R_World = some m.cls := findClass_of_methodNamed B.named
  have hlocks := B.notSynchronized
  subst hsz
  have hD := hD0.self (sz := s.heap.size)
  generalize hAe : (va_A (TW cI u o i a g) s.heap.size) = A at hD hE ⊢
  have hA : ∀ q : Nat, s.heap.size ≤ q → A q := fun q h => by rw [← hAe]; exact Or.inr h
  have hS : va_S A s.heap s.heap [] := va_S.rf
  obtain ⟨mc, ms, emc, ems⟩ : ∃ mc ms : Nat, k2.1 = mc ∧ k2.2 = ms := ⟨_, _, rfl, rfl⟩
  have hkc : 0 + k2.1 = mc := by rw [Nat.zero_add]; exact emc
  have hks : 0 + k2.2 = ms := by rw [Nat.zero_add]; exact ems
  rw [emc, ems]
  clear emc ems
  have hl := lv_entry ([.ref ((u 0)), .int v1]) (n := 2) (Nat.le_of_ble_eq_true rfl)
  rw [lg_entry_eq]
  generalize (lg_sl ([.ref ((u 0)), .int v1]) ++ List.replicate (2 - (lg_sl ([.ref ((u 0)), .int v1])).length) Slot.unset).toArray = ls at hl ⊢
  have hl : lv_has ls 2 [(0, .ref ((u 0))), (1, .int v1)] := hl
  rw [m_World_go] at hm
  refine lv_aload_n hx hb d_World_go_0 rfl (lv_at hl 0 rfl) ?_
  refine va_get (D := (dC, dI)) (ci := 0) (v := .int (i 3)) (C := R_World) (T := F_World) (N := 13) hx hb htt iw_World hown hK hP 0 xo_0 rfl 12 (Nat.le_of_ble_eq_true rfl) (htt _ lk_World_115) (fun _ h9 => h9) xg_0_12 d_World_go_1 ?_
  refine lv_if_eq (tgt := 22) hx hb d_World_go_4 (by decide) (fun c_1 => ?_) (fun c_1 => ?_)
  · replace hm := if_t c_1 hm
    refine lv_iconst (v := 0) hx hb d_World_go_22 (by decide) ?_
    obtain ⟨e1, e2, e4, e5, e6, e3⟩ := re5 hm
    obtain ⟨hP, hD⟩ := x_eqg e1 e2 e4 hP hD
    refine W.widen (k := mc) (n := ms) (show 0 ≤ mc by omega) (show 0 ≤ ms by omega) ?_
    exact W.zret hx hb hr (by decide) (fun t9 ht hW => ⟨⟨_, o, rfl, e3.symm, by rw [ht]; exact hP, hD⟩, hS.F ht⟩) hS.2.2 d_World_go_23
  · replace hm := if_f c_1 hm
    refine lv_iload_n hx hb d_World_go_7 rfl (lv_at hl 1 rfl) ?_
    refine lv_if_lt (tgt := 22) hx hb d_World_go_8 (by decide) (fun c_2 => ?_) (fun c_2 => ?_)
    · replace hm := if_t c_2 hm
      refine lv_iconst (v := 0) hx hb d_World_go_22 (by decide) ?_
      obtain ⟨e1, e2, e4, e5, e6, e3⟩ := re5 hm
      obtain ⟨hP, hD⟩ := x_eqg e1 e2 e4 hP hD
      refine W.widen (k := mc) (n := ms) (show 0 ≤ mc by omega) (show 0 ≤ ms by omega) ?_
      exact W.zret hx hb hr (by decide) (fun t9 ht hW => ⟨⟨_, o, rfl, e3.symm, by rw [ht]; exact hP, hD⟩, hS.F ht⟩) hS.2.2 d_World_go_23
    · replace hm := if_f c_2 hm
      refine lv_iload_n hx hb d_World_go_11 rfl (lv_at hl 1 rfl) ?_
      refine lv_aload_n hx hb d_World_go_12 rfl (lv_at hl 0 rfl) ?_
      refine va_get (D := (dC, dI)) (ci := 0) (v := .ref ((u 8))) (C := R_World) (T := F_World) (N := 13) hx hb htt iw_World hown hK hP 0 xo_0 rfl 6 (Nat.le_of_ble_eq_true rfl) (htt _ lk_World_63) (fun _ h9 => h9) xg_0_6 d_World_go_13 ?_
      refine va_get (D := (dC, dI)) (ci := 8) (v := .int (i 37)) (C := R_Line) (T := F_Line) (N := 18) hx hb htt iw_Line hown hK hP 8 xo_8 rfl 3 (Nat.le_of_ble_eq_true rfl) (htt _ lk_World_141) (fun _ h9 => h9) xg_8_3 d_World_go_16 ?_
      refine lv_icmp_le (tgt := 24) hx hb d_World_go_19 (by decide) (fun c_3 => ?_) (fun c_3 => ?_)
      · replace hm := if_t c_3 hm
        refine lv_aload_n hx hb d_World_go_24 rfl (lv_at hl 0 rfl) ?_
        obtain ⟨i_5, a_6, r_7, h_4, hm⟩ := ob_some hm
        have hFc := x_free hD hS hA
        refine xg_callv (va_runV (As := []) (rest := []) ⟨hx, hb, hml, hown, hts⟩ (x_World_takeBack l dC dI cI adK adV adA u o g s.heap.size n h_4) (cwV 0 hts (tw_GV tw_cons cw_World_takeBack lk_World_144 in_World_takeBack sel_World_takeBack ini_World) rfl rfl rfl ⟨rfl, hd_World_takeBack⟩ ⟨Nat.le_of_ble_eq_true rfl, Nat.le_of_ble_eq_true rfl⟩) (xpV hK hP hD hS hE hFc xo_0 rfl) rfl rfl hl.1 rfl (lv_room (Nat.le_of_ble_eq_true rfl)) d_World_go_25 ⟨show 0 + 0 ≤ mc by omega, show 0 + 0 ≤ ms by omega⟩) hS (fun q _ h => hFc q h) hFc (fun kc_8 ks_9 u9 t9 H locs ekc eks ht hvm e9 hB hz1 hk1 hS => ?_)
        replace hkc : kc_8 + k2.1 = mc := by omega
        replace hks : ks_9 + k2.2 = ms := by omega
        clear ekc eks
        obtain ⟨hP, hD⟩ := x_aft hB ht hFc
        clear hFc hk1 hz1 hvm hB ht
        refine lv_aload_n hx hb d_World_go_28 rfl (lv_at hl 0 rfl) ?_
        refine va_get (D := (dC, dI)) (ci := 0) (v := .ref ((u 11))) (C := R_World) (T := F_World) (N := 13) hx hb htt iw_World hown hK hP 0 xo_0 rfl 8 (Nat.le_of_ble_eq_true rfl) (htt _ lk_World_84) (fun _ h9 => h9) xg_0_8 d_World_go_29 ?_
        refine lv_aload_n hx hb d_World_go_32 rfl (lv_at hl 0 rfl) ?_
        refine va_get (D := (dC, dI)) (ci := 0) (v := .int (i_5 0)) (C := R_World) (T := F_World) (N := 13) hx hb htt iw_World hown hK hP 0 xo_0 rfl 9 (Nat.le_of_ble_eq_true rfl) (htt _ lk_World_125) (fun _ h9 => h9) xg_0_9 d_World_go_33 ?_
        obtain ⟨i_11, a_12, g_13, k_14, r_15, k_16, h_10, hm, e7, e8⟩ := obG_some hm
        have hFc := x_free hD hS hA
        refine xg_callv (va_runV (As := [.int (i_5 0)]) (rest := []) ⟨hx, hb, hml, hown, hts⟩ (x_Machine_begin l dC dI cI adK adV adA u o g H.size n h_10) (cwV 1 hts (tw_GV tw_cons cw_Machine_begin lk_World_128 in_Machine_begin sel_Machine_begin ini_Machine) rfl rfl rfl ⟨rfl, hd_Machine_begin⟩ ⟨Nat.le_of_ble_eq_true rfl, Nat.le_of_ble_eq_true rfl⟩) (xpV hK hP hD hS hE hFc xo_11 rfl) rfl rfl hl.1 rfl (lv_room (Nat.le_of_ble_eq_true rfl)) d_World_go_36 ⟨show kc_8 + k_14.1 ≤ mc by omega, show ks_9 + k_14.2 ≤ ms by omega⟩) hS (fun q _ h => hFc q h) hFc (fun kc_18 ks_19 o_17 t9 H locs ekc eks ht hvm e9 hB hz1 hk1 hS => ?_)
        replace hkc : kc_18 + k_16.1 = mc := by omega
        replace hks : ks_19 + k_16.2 = ms := by omega
        clear e7 e8
        clear ekc eks
        obtain ⟨hP, hD⟩ := x_aftg hB ht hFc
        clear hFc hk1 hz1 hvm hB ht
        refine lv_aload_n hx hb d_World_go_39 rfl (lv_at hl 0 rfl) ?_
        refine va_get (D := (dC, dI)) (ci := 0) (v := .ref ((u 11))) (C := R_World) (T := F_World) (N := 13) hx hb htt iw_World hown hK hP 0 xo_0 rfl 8 (Nat.le_of_ble_eq_true rfl) (htt _ lk_World_84) (fun _ h9 => h9) xg_0_8 d_World_go_40 ?_
        refine lv_iload_n hx hb d_World_go_43 rfl (lv_at hl 1 rfl) ?_
        obtain ⟨i_21, a_22, g_23, k_24, r_25, k_26, h_20, hm, e7, e8⟩ := obG_some hm
        have hFc := x_free hD hS hA
        refine xg_calli (va_runV (As := [.int v1]) (rest := []) ⟨hx, hb, hml, hown, hts⟩ (x_Machine_goOn l dC dI cI adK adV adA u o_17 g_13 H.size n h_20) (cwV 1 hts (tw_GV tw_cons cw_Machine_goOn lk_World_138 in_Machine_goOn sel_Machine_goOn ini_Machine) rfl rfl rfl ⟨rfl, hd_Machine_goOn⟩ ⟨Nat.le_of_ble_eq_true rfl, Nat.le_of_ble_eq_true rfl⟩) (xpV hK hP hD hS hE hFc xo_11 rfl) rfl rfl hl.1 rfl (lv_room (Nat.le_of_ble_eq_true rfl)) d_World_go_44 ⟨show kc_18 + k_24.1 ≤ mc by omega, show ks_19 + k_24.2 ≤ ms by omega⟩) hS (fun q _ h => hFc q h) hFc (fun kc_28 ks_29 r9 o_27 t9 H locs ekc eks ht hvm e9 hB hz1 hk1 hS => ?_)
        replace hkc : kc_28 + k_26.1 = mc := by omega
        replace hks : ks_29 + k_26.2 = ms := by omega
        clear e7 e8
        clear ekc eks
        have e9 : r_25 = r9 := e9
        subst e9
        obtain ⟨hP, hD⟩ := x_aftg hB ht hFc
        clear hFc hk1 hz1 hvm hB ht
        refine lv_pop hx hb d_World_go_47 rfl ?_
        refine lv_iconst (v := 1) hx hb d_World_go_48 (by decide) ?_
        obtain ⟨e1, e2, e4, e5, e6, e3⟩ := re5 hm
        obtain ⟨hP, hD⟩ := x_eqg e1 e2 e4 hP hD
        refine W.widen (k := mc) (n := ms) (show kc_28 ≤ mc by omega) (show ks_29 ≤ ms by omega) ?_
        exact W.zret hx hb hr (by decide) (fun t9 ht hW => ⟨⟨_, o_27, rfl, e3.symm, by rw [ht]; exact hP, hD⟩, hS.F ht⟩) hS.2.2 d_World_go_49
      · replace hm := if_f c_3 hm
        refine lv_iconst (v := 0) hx hb d_World_go_22 (by decide) ?_
        obtain ⟨e1, e2, e4, e5, e6, e3⟩ := re5 hm
        obtain ⟨hP, hD⟩ := x_eqg e1 e2 e4 hP hD
        refine W.widen (k := mc) (n := ms) (show 0 ≤ mc by omega) (show 0 ≤ ms by omega) ?_
        exact W.zret hx hb hr (by decide) (fun t9 ht hW => ⟨⟨_, o, rfl, e3.symm, by rw [ht]; exact hP, hD⟩, hS.F ht⟩) hS.2.2 d_World_go_23
