theorem hd_Heap_reserve : y_Heap_reserve.cls ≠ "java/lang/invoke/MethodHandle" ∧ y_Heap_reserve.cls ≠ "java/lang/invoke/VarHandle" ∧ (parseMethodDescriptor y_Heap_reserve.desc).map (fun d => d.parameters.length) = some 1 := by decide +kernel
theorem d_Reader_takeTo_0 : decode b_Reader_takeTo 0 = .ok (.iload_n 1, 1) := by decide +kernel
theorem d_Reader_takeTo_1 : decode b_Reader_takeTo 1 = .ok (.bipush 84, 2) := by decide +kernel
theorem d_Reader_takeTo_3 : decode b_Reader_takeTo 3 = .ok (.if_icmp .ne 11, 3) := by decide +kernel
theorem d_Reader_takeTo_6 : decode b_Reader_takeTo 6 = .ok (.aload_n 0, 1) := by decide +kernel
theorem d_Reader_takeTo_7 : decode b_Reader_takeTo 7 = .ok (.iconst 1, 1) := by decide +kernel
theorem d_Reader_takeTo_8 : decode b_Reader_takeTo 8 = .ok (.putfield 72, 3) := by decide +kernel
theorem d_Reader_takeTo_11 : decode b_Reader_takeTo 11 = .ok (.goto 10, 3) := by decide +kernel
theorem d_Reader_takeTo_14 : decode b_Reader_takeTo 14 = .ok (.aload_n 0, 1) := by decide +kernel
theorem d_Reader_takeTo_15 : decode b_Reader_takeTo 15 = .ok (.bipush 7, 2) := by decide +kernel
theorem d_Reader_takeTo_17 : decode b_Reader_takeTo 17 = .ok (.iload_n 2, 1) := by decide +kernel
theorem d_Reader_takeTo_18 : decode b_Reader_takeTo 18 = .ok (.invokevirtual 54, 3) := by decide +kernel
theorem d_Reader_takeTo_21 : decode b_Reader_takeTo 21 = .ok (.return_, 1) := by decide +kernel
theorem lk_Reader_54 : Cond.methodLink "TurtleWorld$Reader" 54 ⟨"TurtleWorld$Reader", "blame", "(II)V"⟩ ∈ tw_T := tw_i4 26 (by decide +kernel) (by decide +kernel)
theorem hd_Reader_blame : y_Reader_blame.cls ≠ "java/lang/invoke/MethodHandle" ∧ y_Reader_blame.cls ≠ "java/lang/invoke/VarHandle" ∧ (parseMethodDescriptor y_Reader_blame.desc).map (fun d => d.parameters.length) = some 2 := by decide +kernel
theorem in_Reader_blame : Cond.instanceMethod ⟨"TurtleWorld$Reader", "blame", "(II)V"⟩ ∈ tw_T := tw_i4 28 (by decide +kernel) (by decide +kernel)
theorem sel_Reader_blame : Cond.selects "TurtleWorld$Reader" ⟨"TurtleWorld$Reader", "blame", "(II)V"⟩ ⟨"TurtleWorld$Reader", "blame", "(II)V"⟩ ∈ tw_T := tw_inS 9 (by decide +kernel) (by decide +kernel)
theorem hd_Heap_sameWord : y_Heap_sameWord.cls ≠ "java/lang/invoke/MethodHandle" ∧ y_Heap_sameWord.cls ≠ "java/lang/invoke/VarHandle" ∧ (parseMethodDescriptor y_Heap_sameWord.desc).map (fun d => d.parameters.length) = some 2 := by decide +kernel
theorem d_Reader_takeInput_0 : decode b_Reader_takeInput 0 = .ok (.aload_n 0, 1) := by decide +kernel
theorem d_Reader_takeInput_1 : decode b_Reader_takeInput 1 = .ok (.getfield 30, 3) := by decide +kernel
theorem d_Reader_takeInput_4 : decode b_Reader_takeInput 4 = .ok (.iload_n 1, 1) := by decide +kernel
theorem d_Reader_takeInput_5 : decode b_Reader_takeInput 5 = .ok (.invokevirtual 171, 3) := by decide +kernel
theorem d_Reader_takeInput_8 : decode b_Reader_takeInput 8 = .ok (.istore_n 3, 1) := by decide +kernel
theorem d_Reader_takeInput_9 : decode b_Reader_takeInput 9 = .ok (.iload_n 3, 1) := by decide +kernel
theorem d_Reader_takeInput_10 : decode b_Reader_takeInput 10 = .ok (.ldc 127, 2) := by decide +kernel
theorem d_Reader_takeInput_12 : decode b_Reader_takeInput 12 = .ok (.if_icmp .eq 11, 3) := by decide +kernel
theorem d_Reader_takeInput_15 : decode b_Reader_takeInput 15 = .ok (.aload_n 0, 1) := by decide +kernel
theorem d_Reader_takeInput_16 : decode b_Reader_takeInput 16 = .ok (.getfield 75, 3) := by decide +kernel
theorem d_Reader_takeInput_19 : decode b_Reader_takeInput 19 = .ok (.iconst 5, 1) := by decide +kernel
theorem d_Reader_takeInput_20 : decode b_Reader_takeInput 20 = .ok (.if_icmp .lt 11, 3) := by decide +kernel
theorem d_Reader_takeInput_23 : decode b_Reader_takeInput 23 = .ok (.aload_n 0, 1) := by decide +kernel
theorem d_Reader_takeInput_24 : decode b_Reader_takeInput 24 = .ok (.bipush 9, 2) := by decide +kernel
theorem d_Reader_takeInput_26 : decode b_Reader_takeInput 26 = .ok (.iload_n 2, 1) := by decide +kernel
theorem d_Reader_takeInput_27 : decode b_Reader_takeInput 27 = .ok (.invokevirtual 54, 3) := by decide +kernel
theorem d_Reader_takeInput_30 : decode b_Reader_takeInput 30 = .ok (.return_, 1) := by decide +kernel
theorem d_Reader_takeInput_31 : decode b_Reader_takeInput 31 = .ok (.iconst 0, 1) := by decide +kernel
theorem d_Reader_takeInput_32 : decode b_Reader_takeInput 32 = .ok (.istore 4, 2) := by decide +kernel
theorem d_Reader_takeInput_34 : decode b_Reader_takeInput 34 = .ok (.iload 4, 2) := by decide +kernel
theorem d_Reader_takeInput_36 : decode b_Reader_takeInput 36 = .ok (.aload_n 0, 1) := by decide +kernel
theorem d_Reader_takeInput_37 : decode b_Reader_takeInput 37 = .ok (.getfield 75, 3) := by decide +kernel
theorem d_Reader_takeInput_40 : decode b_Reader_takeInput 40 = .ok (.if_icmp .ge 34, 3) := by decide +kernel
theorem d_Reader_takeInput_43 : decode b_Reader_takeInput 43 = .ok (.aload_n 0, 1) := by decide +kernel
theorem d_Reader_takeInput_44 : decode b_Reader_takeInput 44 = .ok (.getfield 30, 3) := by decide +kernel
theorem d_Reader_takeInput_47 : decode b_Reader_takeInput 47 = .ok (.aload_n 0, 1) := by decide +kernel
theorem d_Reader_takeInput_48 : decode b_Reader_takeInput 48 = .ok (.getfield 15, 3) := by decide +kernel
theorem d_Reader_takeInput_51 : decode b_Reader_takeInput 51 = .ok (.iload 4, 2) := by decide +kernel
theorem d_Reader_takeInput_53 : decode b_Reader_takeInput 53 = .ok (.iaload, 1) := by decide +kernel
theorem d_Reader_takeInput_54 : decode b_Reader_takeInput 54 = .ok (.iload_n 3, 1) := by decide +kernel
theorem d_Reader_takeInput_55 : decode b_Reader_takeInput 55 = .ok (.invokevirtual 164, 3) := by decide +kernel
theorem d_Reader_takeInput_58 : decode b_Reader_takeInput 58 = .ok (.ifCond .eq 10, 3) := by decide +kernel
theorem d_Reader_takeInput_61 : decode b_Reader_takeInput 61 = .ok (.aload_n 0, 1) := by decide +kernel
theorem d_Reader_takeInput_62 : decode b_Reader_takeInput 62 = .ok (.bipush 9, 2) := by decide +kernel
theorem d_Reader_takeInput_64 : decode b_Reader_takeInput 64 = .ok (.iload_n 2, 1) := by decide +kernel
theorem d_Reader_takeInput_65 : decode b_Reader_takeInput 65 = .ok (.invokevirtual 54, 3) := by decide +kernel
theorem d_Reader_takeInput_68 : decode b_Reader_takeInput 68 = .ok (.iinc 4 1, 3) := by decide +kernel
theorem d_Reader_takeInput_71 : decode b_Reader_takeInput 71 = .ok (.goto (-37), 3) := by decide +kernel
theorem d_Reader_takeInput_74 : decode b_Reader_takeInput 74 = .ok (.aload_n 0, 1) := by decide +kernel
theorem d_Reader_takeInput_75 : decode b_Reader_takeInput 75 = .ok (.iload_n 3, 1) := by decide +kernel
theorem d_Reader_takeInput_76 : decode b_Reader_takeInput 76 = .ok (.invokevirtual 128, 3) := by decide +kernel
theorem d_Reader_takeInput_79 : decode b_Reader_takeInput 79 = .ok (.return_, 1) := by decide +kernel
theorem lk_Reader_171 : Cond.methodLink "TurtleWorld$Reader" 171 ⟨"TurtleWorld$Heap", "behind", "(I)I"⟩ ∈ tw_T := tw_i4 137 (by decide +kernel) (by decide +kernel)
theorem hd_Heap_behind : y_Heap_behind.cls ≠ "java/lang/invoke/MethodHandle" ∧ y_Heap_behind.cls ≠ "java/lang/invoke/VarHandle" ∧ (parseMethodDescriptor y_Heap_behind.desc).map (fun d => d.parameters.length) = some 1 := by decide +kernel
theorem in_Heap_behind : Cond.instanceMethod ⟨"TurtleWorld$Heap", "behind", "(I)I"⟩ ∈ tw_T := tw_i4 138 (by decide +kernel) (by decide +kernel)
theorem sel_Heap_behind : Cond.selects "TurtleWorld$Heap" ⟨"TurtleWorld$Heap", "behind", "(I)I"⟩ ⟨"TurtleWorld$Heap", "behind", "(I)I"⟩ ∈ tw_T := tw_i4 139 (by decide +kernel) (by decide +kernel)
theorem lk_Reader_128 : Cond.methodLink "TurtleWorld$Reader" 128 ⟨"TurtleWorld$Reader", "addMember", "(I)V"⟩ ∈ tw_T := tw_i4 78 (by decide +kernel) (by decide +kernel)
theorem hd_Reader_addMember : y_Reader_addMember.cls ≠ "java/lang/invoke/MethodHandle" ∧ y_Reader_addMember.cls ≠ "java/lang/invoke/VarHandle" ∧ (parseMethodDescriptor y_Reader_addMember.desc).map (fun d => d.parameters.length) = some 1 := by decide +kernel
theorem in_Reader_addMember : Cond.instanceMethod ⟨"TurtleWorld$Reader", "addMember", "(I)V"⟩ ∈ tw_T := tw_i4 80 (by decide +kernel) (by decide +kernel)
theorem sel_Reader_addMember : Cond.selects "TurtleWorld$Reader" ⟨"TurtleWorld$Reader", "addMember", "(I)V"⟩ ⟨"TurtleWorld$Reader", "addMember", "(I)V"⟩ ∈ tw_T := tw_inS 16 (by decide +kernel) (by decide +kernel)
theorem lk_Reader_164 : Cond.methodLink "TurtleWorld$Reader" 164 ⟨"TurtleWorld$Heap", "sameWord", "(II)Z"⟩ ∈ tw_T := tw_i4 124 (by decide +kernel) (by decide +kernel)
theorem hd_Heap_reserveSpare : y_Heap_reserveSpare.cls ≠ "java/lang/invoke/MethodHandle" ∧ y_Heap_reserveSpare.cls ≠ "java/lang/invoke/VarHandle" ∧ (parseMethodDescriptor y_Heap_reserveSpare.desc).map (fun d => d.parameters.length) = some 1 := by decide +kernel
theorem hd_Names_keep : y_Names_keep.cls ≠ "java/lang/invoke/MethodHandle" ∧ y_Names_keep.cls ≠ "java/lang/invoke/VarHandle" ∧ (parseMethodDescriptor y_Names_keep.desc).map (fun d => d.parameters.length) = some 0 := by decide +kernel
theorem hd_Procedures_keep : y_Procedures_keep.cls ≠ "java/lang/invoke/MethodHandle" ∧ y_Procedures_keep.cls ≠ "java/lang/invoke/VarHandle" ∧ (parseMethodDescriptor y_Procedures_keep.desc).map (fun d => d.parameters.length) = some 0 := by decide +kernel
theorem hd_Turtles_keep : y_Turtles_keep.cls ≠ "java/lang/invoke/MethodHandle" ∧ y_Turtles_keep.cls ≠ "java/lang/invoke/VarHandle" ∧ (parseMethodDescriptor y_Turtles_keep.desc).map (fun d => d.parameters.length) = some 0 := by decide +kernel
theorem hd_Output_keep : y_Output_keep.cls ≠ "java/lang/invoke/MethodHandle" ∧ y_Output_keep.cls ≠ "java/lang/invoke/VarHandle" ∧ (parseMethodDescriptor y_Output_keep.desc).map (fun d => d.parameters.length) = some 0 := by decide +kernel
theorem hd_Heap_count : y_Heap_count.cls ≠ "java/lang/invoke/MethodHandle" ∧ y_Heap_count.cls ≠ "java/lang/invoke/VarHandle" ∧ (parseMethodDescriptor y_Heap_count.desc).map (fun d => d.parameters.length) = some 1 := by decide +kernel
theorem hd_Waiting_meet : y_Waiting_meet.cls ≠ "java/lang/invoke/MethodHandle" ∧ y_Waiting_meet.cls ≠ "java/lang/invoke/VarHandle" ∧ (parseMethodDescriptor y_Waiting_meet.desc).map (fun d => d.parameters.length) = some 4 := by decide +kernel
theorem d_Machine_meetSign_0 : decode b_Machine_meetSign 0 = .ok (.aload_n 0, 1) := by decide +kernel
theorem d_Machine_meetSign_1 : decode b_Machine_meetSign 1 = .ok (.getfield 111, 3) := by decide +kernel
theorem d_Machine_meetSign_4 : decode b_Machine_meetSign 4 = .ok (.ldc 114, 2) := by decide +kernel
theorem d_Machine_meetSign_6 : decode b_Machine_meetSign 6 = .ok (.if_icmp .ne 6, 3) := by decide +kernel
theorem d_Machine_meetSign_9 : decode b_Machine_meetSign 9 = .ok (.ldc 160, 2) := by decide +kernel
theorem d_Machine_meetSign_11 : decode b_Machine_meetSign 11 = .ok (.ireturn, 1) := by decide +kernel
theorem d_Machine_meetSign_12 : decode b_Machine_meetSign 12 = .ok (.aload_n 0, 1) := by decide +kernel
theorem d_Machine_meetSign_13 : decode b_Machine_meetSign 13 = .ok (.getfield 18, 3) := by decide +kernel
theorem d_Machine_meetSign_16 : decode b_Machine_meetSign 16 = .ok (.getfield 164, 3) := by decide +kernel
theorem d_Machine_meetSign_19 : decode b_Machine_meetSign 19 = .ok (.iload_n 2, 1) := by decide +kernel
theorem d_Machine_meetSign_20 : decode b_Machine_meetSign 20 = .ok (.dup2, 1) := by decide +kernel
theorem d_Machine_meetSign_21 : decode b_Machine_meetSign 21 = .ok (.iaload, 1) := by decide +kernel
theorem d_Machine_meetSign_22 : decode b_Machine_meetSign 22 = .ok (.iconst 1, 1) := by decide +kernel
theorem d_Machine_meetSign_23 : decode b_Machine_meetSign 23 = .ok (.iadd, 1) := by decide +kernel
theorem d_Machine_meetSign_24 : decode b_Machine_meetSign 24 = .ok (.iastore, 1) := by decide +kernel
theorem d_Machine_meetSign_25 : decode b_Machine_meetSign 25 = .ok (.aload_n 0, 1) := by decide +kernel
theorem d_Machine_meetSign_26 : decode b_Machine_meetSign 26 = .ok (.getfield 22, 3) := by decide +kernel
theorem d_Machine_meetSign_29 : decode b_Machine_meetSign 29 = .ok (.iconst 1, 1) := by decide +kernel
theorem d_Machine_meetSign_30 : decode b_Machine_meetSign 30 = .ok (.getstatic 248, 3) := by decide +kernel
theorem d_Machine_meetSign_33 : decode b_Machine_meetSign 33 = .ok (.iload_n 1, 1) := by decide +kernel
theorem d_Machine_meetSign_34 : decode b_Machine_meetSign 34 = .ok (.iaload, 1) := by decide +kernel
theorem d_Machine_meetSign_35 : decode b_Machine_meetSign 35 = .ok (.iconst 2, 1) := by decide +kernel
theorem d_Machine_meetSign_36 : decode b_Machine_meetSign 36 = .ok (.getstatic 229, 3) := by decide +kernel
theorem d_Machine_meetSign_39 : decode b_Machine_meetSign 39 = .ok (.iload_n 1, 1) := by decide +kernel
theorem d_Machine_meetSign_40 : decode b_Machine_meetSign 40 = .ok (.iaload, 1) := by decide +kernel
theorem d_Machine_meetSign_41 : decode b_Machine_meetSign 41 = .ok (.invokevirtual 205, 3) := by decide +kernel
theorem d_Machine_meetSign_44 : decode b_Machine_meetSign 44 = .ok (.aload_n 0, 1) := by decide +kernel
theorem d_Machine_meetSign_45 : decode b_Machine_meetSign 45 = .ok (.iconst 0, 1) := by decide +kernel
theorem d_Machine_meetSign_46 : decode b_Machine_meetSign 46 = .ok (.putfield 62, 3) := by decide +kernel
theorem d_Machine_meetSign_49 : decode b_Machine_meetSign 49 = .ok (.aload_n 0, 1) := by decide +kernel
theorem d_Machine_meetSign_50 : decode b_Machine_meetSign 50 = .ok (.getfield 22, 3) := by decide +kernel
theorem d_Machine_meetSign_53 : decode b_Machine_meetSign 53 = .ok (.aload_n 0, 1) := by decide +kernel
theorem d_Machine_meetSign_54 : decode b_Machine_meetSign 54 = .ok (.getfield 111, 3) := by decide +kernel
theorem d_Machine_meetSign_57 : decode b_Machine_meetSign 57 = .ok (.invokevirtual 251, 3) := by decide +kernel
theorem d_Machine_meetSign_60 : decode b_Machine_meetSign 60 = .ok (.aload_n 0, 1) := by decide +kernel
theorem d_Machine_meetSign_61 : decode b_Machine_meetSign 61 = .ok (.getfield 22, 3) := by decide +kernel
theorem d_Machine_meetSign_64 : decode b_Machine_meetSign 64 = .ok (.invokevirtual 209, 3) := by decide +kernel
theorem d_Machine_meetSign_67 : decode b_Machine_meetSign 67 = .ok (.ireturn, 1) := by decide +kernel
theorem lk_Machine_248 : Cond.fieldLink "TurtleWorld$Machine" 248 "TurtleWorld$Machine" "SIGN_WORDS" "[I" ∈ tw_T := tw_i5 115 (by decide +kernel) (by decide +kernel)
theorem lk_Machine_229 : Cond.fieldLink "TurtleWorld$Machine" 229 "TurtleWorld$Machine" "STRENGTHS" "[I" ∈ tw_T := tw_i5 109 (by decide +kernel) (by decide +kernel)
theorem lk_Machine_205 : Cond.methodLink "TurtleWorld$Machine" 205 ⟨"TurtleWorld$Waiting", "meet", "(IIII)V"⟩ ∈ tw_T := tw_i5 100 (by decide +kernel) (by decide +kernel)
theorem lk_Machine_251 : Cond.methodLink "TurtleWorld$Machine" 251 ⟨"TurtleWorld$Waiting", "put", "(I)V"⟩ ∈ tw_T := tw_i5 117 (by decide +kernel) (by decide +kernel)
theorem hd_Waiting_put : y_Waiting_put.cls ≠ "java/lang/invoke/MethodHandle" ∧ y_Waiting_put.cls ≠ "java/lang/invoke/VarHandle" ∧ (parseMethodDescriptor y_Waiting_put.desc).map (fun d => d.parameters.length) = some 1 := by decide +kernel
theorem hd_Waiting_settleLast : y_Waiting_settleLast.cls ≠ "java/lang/invoke/MethodHandle" ∧ y_Waiting_settleLast.cls ≠ "java/lang/invoke/VarHandle" ∧ (parseMethodDescriptor y_Waiting_settleLast.desc).map (fun d => d.parameters.length) = some 0 := by decide +kernel
theorem hd_Machine_finishGiving : y_Machine_finishGiving.cls ≠ "java/lang/invoke/MethodHandle" ∧ y_Machine_finishGiving.cls ≠ "java/lang/invoke/VarHandle" ∧ (parseMethodDescriptor y_Machine_finishGiving.desc).map (fun d => d.parameters.length) = some 1 := by decide +kernel
theorem lk_Machine_145 : Cond.fieldLink "TurtleWorld$Machine" 145 "TurtleWorld$Line" "locals" "[I" ∈ tw_T := tw_i3 36 (by decide +kernel) (by decide +kernel)
theorem hd_Names_dropLocals : y_Names_dropLocals.cls ≠ "java/lang/invoke/MethodHandle" ∧ y_Names_dropLocals.cls ≠ "java/lang/invoke/VarHandle" ∧ (parseMethodDescriptor y_Names_dropLocals.desc).map (fun d => d.parameters.length) = some 1 := by decide +kernel
theorem lk_Machine_148 : Cond.fieldLink "TurtleWorld$Machine" 148 "TurtleWorld$Line" "calls" "I" ∈ tw_T := tw_i3 14 (by decide +kernel) (by decide +kernel)
theorem lk_Machine_137 : Cond.fieldLink "TurtleWorld$Machine" 137 "TurtleWorld$Line" "mark" "[I" ∈ tw_T := tw_i3 29 (by decide +kernel) (by decide +kernel)
theorem lk_Machine_140 : Cond.fieldLink "TurtleWorld$Machine" 140 "TurtleWorld$Turtles" "told" "I" ∈ tw_T := tw_i2 90 (by decide +kernel) (by decide +kernel)
theorem hd_Machine_changeLists : y_Machine_changeLists.cls ≠ "java/lang/invoke/MethodHandle" ∧ y_Machine_changeLists.cls ≠ "java/lang/invoke/VarHandle" ∧ (parseMethodDescriptor y_Machine_changeLists.desc).map (fun d => d.parameters.length) = some 2 := by decide +kernel
theorem d_Deeds_fits_0 : decode b_Deeds_fits 0 = .ok (.iload_n 1, 1) := by decide +kernel
theorem d_Deeds_fits_1 : decode b_Deeds_fits 1 = .ok (.lookupswitch 128 #[(98, 79), (108, 56), (110, 51), (116, 66), (119, 61)], 51) := by decide +kernel
theorem d_Deeds_fits_52 : decode b_Deeds_fits 52 = .ok (.iload_n 2, 1) := by decide +kernel
theorem d_Deeds_fits_53 : decode b_Deeds_fits 53 = .ok (.invokestatic 71, 3) := by decide +kernel
theorem d_Deeds_fits_56 : decode b_Deeds_fits 56 = .ok (.ireturn, 1) := by decide +kernel
theorem d_Deeds_fits_57 : decode b_Deeds_fits 57 = .ok (.iload_n 2, 1) := by decide +kernel
theorem d_Deeds_fits_58 : decode b_Deeds_fits 58 = .ok (.invokestatic 75, 3) := by decide +kernel
theorem d_Deeds_fits_61 : decode b_Deeds_fits 61 = .ok (.ireturn, 1) := by decide +kernel
theorem d_Deeds_fits_62 : decode b_Deeds_fits 62 = .ok (.iload_n 2, 1) := by decide +kernel
theorem d_Deeds_fits_63 : decode b_Deeds_fits 63 = .ok (.invokestatic 78, 3) := by decide +kernel
theorem d_Deeds_fits_66 : decode b_Deeds_fits 66 = .ok (.ireturn, 1) := by decide +kernel
theorem d_Deeds_fits_67 : decode b_Deeds_fits 67 = .ok (.iload_n 2, 1) := by decide +kernel
theorem d_Deeds_fits_68 : decode b_Deeds_fits 68 = .ok (.invokestatic 75, 3) := by decide +kernel
theorem d_Deeds_fits_71 : decode b_Deeds_fits 71 = .ok (.ifCond .ne 7, 3) := by decide +kernel
theorem d_Deeds_fits_74 : decode b_Deeds_fits 74 = .ok (.iconst 1, 1) := by decide +kernel
theorem d_Deeds_fits_75 : decode b_Deeds_fits 75 = .ok (.goto 4, 3) := by decide +kernel
theorem d_Deeds_fits_78 : decode b_Deeds_fits 78 = .ok (.iconst 0, 1) := by decide +kernel
theorem d_Deeds_fits_79 : decode b_Deeds_fits 79 = .ok (.ireturn, 1) := by decide +kernel
theorem d_Deeds_fits_80 : decode b_Deeds_fits 80 = .ok (.iload_n 2, 1) := by decide +kernel
theorem d_Deeds_fits_81 : decode b_Deeds_fits 81 = .ok (.invokestatic 78, 3) := by decide +kernel
theorem d_Deeds_fits_84 : decode b_Deeds_fits 84 = .ok (.ifCond .eq 43, 3) := by decide +kernel
theorem d_Deeds_fits_87 : decode b_Deeds_fits 87 = .ok (.aload_n 0, 1) := by decide +kernel
theorem d_Deeds_fits_88 : decode b_Deeds_fits 88 = .ok (.getfield 15, 3) := by decide +kernel
theorem d_Deeds_fits_91 : decode b_Deeds_fits 91 = .ok (.iload_n 2, 1) := by decide +kernel
theorem d_Deeds_fits_92 : decode b_Deeds_fits 92 = .ok (.aload_n 0, 1) := by decide +kernel
theorem d_Deeds_fits_93 : decode b_Deeds_fits 93 = .ok (.getfield 15, 3) := by decide +kernel
theorem d_Deeds_fits_96 : decode b_Deeds_fits 96 = .ok (.getfield 81, 3) := by decide +kernel
theorem d_Deeds_fits_99 : decode b_Deeds_fits 99 = .ok (.invokevirtual 84, 3) := by decide +kernel
theorem d_Deeds_fits_102 : decode b_Deeds_fits 102 = .ok (.ifCond .ne 21, 3) := by decide +kernel
theorem d_Deeds_fits_105 : decode b_Deeds_fits 105 = .ok (.aload_n 0, 1) := by decide +kernel
theorem d_Deeds_fits_106 : decode b_Deeds_fits 106 = .ok (.getfield 15, 3) := by decide +kernel
theorem d_Deeds_fits_109 : decode b_Deeds_fits 109 = .ok (.iload_n 2, 1) := by decide +kernel
theorem d_Deeds_fits_110 : decode b_Deeds_fits 110 = .ok (.aload_n 0, 1) := by decide +kernel
theorem d_Deeds_fits_111 : decode b_Deeds_fits 111 = .ok (.getfield 15, 3) := by decide +kernel
theorem d_Deeds_fits_114 : decode b_Deeds_fits 114 = .ok (.getfield 87, 3) := by decide +kernel
theorem d_Deeds_fits_117 : decode b_Deeds_fits 117 = .ok (.invokevirtual 84, 3) := by decide +kernel
theorem d_Deeds_fits_120 : decode b_Deeds_fits 120 = .ok (.ifCond .eq 7, 3) := by decide +kernel
theorem d_Deeds_fits_123 : decode b_Deeds_fits 123 = .ok (.iconst 1, 1) := by decide +kernel
theorem d_Deeds_fits_124 : decode b_Deeds_fits 124 = .ok (.goto 4, 3) := by decide +kernel
theorem d_Deeds_fits_127 : decode b_Deeds_fits 127 = .ok (.iconst 0, 1) := by decide +kernel
theorem d_Deeds_fits_128 : decode b_Deeds_fits 128 = .ok (.ireturn, 1) := by decide +kernel
theorem d_Deeds_fits_129 : decode b_Deeds_fits 129 = .ok (.iconst 1, 1) := by decide +kernel
theorem d_Deeds_fits_130 : decode b_Deeds_fits 130 = .ok (.ireturn, 1) := by decide +kernel
theorem lk_Deeds_78 : Cond.methodLink "TurtleWorld$Deeds" 78 ⟨"TurtleWorld$Heap", "isWord", "(I)Z"⟩ ∈ tw_T := tw_i6 6 (by decide +kernel) (by decide +kernel)
theorem hd_Heap_isWord : y_Heap_isWord.cls ≠ "java/lang/invoke/MethodHandle" ∧ y_Heap_isWord.cls ≠ "java/lang/invoke/VarHandle" ∧ (parseMethodDescriptor y_Heap_isWord.desc).map (fun d => d.parameters.length) = some 1 := by decide +kernel
theorem lk_Deeds_81 : Cond.fieldLink "TurtleWorld$Deeds" 81 "TurtleWorld$Heap" "yes" "I" ∈ tw_T := tw_i1 200 (by decide +kernel) (by decide +kernel)
theorem lk_Deeds_84 : Cond.methodLink "TurtleWorld$Deeds" 84 ⟨"TurtleWorld$Heap", "sameWord", "(II)Z"⟩ ∈ tw_T := tw_i6 7 (by decide +kernel) (by decide +kernel)
theorem lk_Deeds_87 : Cond.fieldLink "TurtleWorld$Deeds" 87 "TurtleWorld$Heap" "no" "I" ∈ tw_T := tw_i1 203 (by decide +kernel) (by decide +kernel)
theorem lk_Deeds_75 : Cond.methodLink "TurtleWorld$Deeds" 75 ⟨"TurtleWorld$Heap", "isList", "(I)Z"⟩ ∈ tw_T := tw_i6 5 (by decide +kernel) (by decide +kernel)
theorem hd_Heap_isList : y_Heap_isList.cls ≠ "java/lang/invoke/MethodHandle" ∧ y_Heap_isList.cls ≠ "java/lang/invoke/VarHandle" ∧ (parseMethodDescriptor y_Heap_isList.desc).map (fun d => d.parameters.length) = some 1 := by decide +kernel
theorem lk_Deeds_71 : Cond.methodLink "TurtleWorld$Deeds" 71 ⟨"TurtleWorld$Heap", "isNumber", "(I)Z"⟩ ∈ tw_T := tw_i6 4 (by decide +kernel) (by decide +kernel)
theorem hd_Heap_isNumber : y_Heap_isNumber.cls ≠ "java/lang/invoke/MethodHandle" ∧ y_Heap_isNumber.cls ≠ "java/lang/invoke/VarHandle" ∧ (parseMethodDescriptor y_Heap_isNumber.desc).map (fun d => d.parameters.length) = some 1 := by decide +kernel
theorem hd_Turtles_floorRoot : y_Turtles_floorRoot.cls ≠ "java/lang/invoke/MethodHandle" ∧ y_Turtles_floorRoot.cls ≠ "java/lang/invoke/VarHandle" ∧ (parseMethodDescriptor y_Turtles_floorRoot.desc).map (fun d => d.parameters.length) = some 1 := by decide +kernel
theorem hd_Math_floorDiv : y_Math_floorDiv.cls ≠ "java/lang/invoke/MethodHandle" ∧ y_Math_floorDiv.cls ≠ "java/lang/invoke/VarHandle" ∧ (parseMethodDescriptor y_Math_floorDiv.desc).map (fun d => d.parameters.length) = some 2 := by decide +kernel
theorem hd_Long_compare : y_Long_compare.cls ≠ "java/lang/invoke/MethodHandle" ∧ y_Long_compare.cls ≠ "java/lang/invoke/VarHandle" ∧ (parseMethodDescriptor y_Long_compare.desc).map (fun d => d.parameters.length) = some 2 := by decide +kernel
theorem d_Turtles_crossing_0 : decode b_Turtles_crossing 0 = .ok (.iconst 2, 1) := by decide +kernel
theorem d_Turtles_crossing_1 : decode b_Turtles_crossing 1 = .ok (.iload_n 1, 1) := by decide +kernel
theorem d_Turtles_crossing_2 : decode b_Turtles_crossing 2 = .ok (.isub, 1) := by decide +kernel
theorem d_Turtles_crossing_3 : decode b_Turtles_crossing 3 = .ok (.istore 4, 2) := by decide +kernel
theorem d_Turtles_crossing_5 : decode b_Turtles_crossing 5 = .ok (.ldc2_w 38, 3) := by decide +kernel
theorem d_Turtles_crossing_8 : decode b_Turtles_crossing 8 = .ok (.aload_n 0, 1) := by decide +kernel
theorem d_Turtles_crossing_9 : decode b_Turtles_crossing 9 = .ok (.getfield 18, 3) := by decide +kernel
theorem d_Turtles_crossing_12 : decode b_Turtles_crossing 12 = .ok (.iload 4, 2) := by decide +kernel
theorem d_Turtles_crossing_14 : decode b_Turtles_crossing 14 = .ok (.iaload, 1) := by decide +kernel
theorem d_Turtles_crossing_15 : decode b_Turtles_crossing 15 = .ok (.iload_n 2, 1) := by decide +kernel
theorem d_Turtles_crossing_16 : decode b_Turtles_crossing 16 = .ok (.aload_n 0, 1) := by decide +kernel
theorem d_Turtles_crossing_17 : decode b_Turtles_crossing 17 = .ok (.getfield 18, 3) := by decide +kernel
theorem d_Turtles_crossing_20 : decode b_Turtles_crossing 20 = .ok (.iload_n 1, 1) := by decide +kernel
theorem d_Turtles_crossing_21 : decode b_Turtles_crossing 21 = .ok (.iconst 1, 1) := by decide +kernel
theorem d_Turtles_crossing_22 : decode b_Turtles_crossing 22 = .ok (.iadd, 1) := by decide +kernel
theorem d_Turtles_crossing_23 : decode b_Turtles_crossing 23 = .ok (.iaload, 1) := by decide +kernel
theorem d_Turtles_crossing_24 : decode b_Turtles_crossing 24 = .ok (.imul, 1) := by decide +kernel
theorem d_Turtles_crossing_25 : decode b_Turtles_crossing 25 = .ok (.isub, 1) := by decide +kernel
theorem d_Turtles_crossing_26 : decode b_Turtles_crossing 26 = .ok (.i2l, 1) := by decide +kernel
theorem d_Turtles_crossing_27 : decode b_Turtles_crossing 27 = .ok (.lmul, 1) := by decide +kernel
theorem d_Turtles_crossing_28 : decode b_Turtles_crossing 28 = .ok (.ldc2_w 38, 3) := by decide +kernel
theorem d_Turtles_crossing_31 : decode b_Turtles_crossing 31 = .ok (.ladd, 1) := by decide +kernel
theorem d_Turtles_crossing_32 : decode b_Turtles_crossing 32 = .ok (.lstore 5, 2) := by decide +kernel
theorem d_Turtles_crossing_34 : decode b_Turtles_crossing 34 = .ok (.ldc2_w 38, 3) := by decide +kernel
theorem d_Turtles_crossing_37 : decode b_Turtles_crossing 37 = .ok (.aload_n 0, 1) := by decide +kernel
theorem d_Turtles_crossing_38 : decode b_Turtles_crossing 38 = .ok (.getfield 18, 3) := by decide +kernel
theorem d_Turtles_crossing_41 : decode b_Turtles_crossing 41 = .ok (.iload 4, 2) := by decide +kernel
theorem d_Turtles_crossing_43 : decode b_Turtles_crossing 43 = .ok (.iconst 1, 1) := by decide +kernel
theorem d_Turtles_crossing_44 : decode b_Turtles_crossing 44 = .ok (.iadd, 1) := by decide +kernel
theorem d_Turtles_crossing_45 : decode b_Turtles_crossing 45 = .ok (.iaload, 1) := by decide +kernel
theorem d_Turtles_crossing_46 : decode b_Turtles_crossing 46 = .ok (.i2l, 1) := by decide +kernel
theorem d_Turtles_crossing_47 : decode b_Turtles_crossing 47 = .ok (.lmul, 1) := by decide +kernel
theorem d_Turtles_crossing_48 : decode b_Turtles_crossing 48 = .ok (.iload_n 2, 1) := by decide +kernel
theorem d_Turtles_crossing_49 : decode b_Turtles_crossing 49 = .ok (.i2l, 1) := by decide +kernel
theorem d_Turtles_crossing_50 : decode b_Turtles_crossing 50 = .ok (.ldc2_w 48, 3) := by decide +kernel
theorem d_Turtles_crossing_53 : decode b_Turtles_crossing 53 = .ok (.iload_n 3, 1) := by decide +kernel
theorem d_Turtles_crossing_54 : decode b_Turtles_crossing 54 = .ok (.i2l, 1) := by decide +kernel
theorem d_Turtles_crossing_55 : decode b_Turtles_crossing 55 = .ok (.lmul, 1) := by decide +kernel
theorem d_Turtles_crossing_56 : decode b_Turtles_crossing 56 = .ok (.aload_n 0, 1) := by decide +kernel
theorem d_Turtles_crossing_57 : decode b_Turtles_crossing 57 = .ok (.getfield 18, 3) := by decide +kernel
theorem d_Turtles_crossing_60 : decode b_Turtles_crossing 60 = .ok (.iload_n 1, 1) := by decide +kernel
theorem d_Turtles_crossing_61 : decode b_Turtles_crossing 61 = .ok (.iaload, 1) := by decide +kernel
theorem d_Turtles_crossing_62 : decode b_Turtles_crossing 62 = .ok (.i2l, 1) := by decide +kernel
theorem d_Turtles_crossing_63 : decode b_Turtles_crossing 63 = .ok (.lsub, 1) := by decide +kernel
theorem d_Turtles_crossing_64 : decode b_Turtles_crossing 64 = .ok (.lmul, 1) := by decide +kernel
theorem d_Turtles_crossing_65 : decode b_Turtles_crossing 65 = .ok (.ladd, 1) := by decide +kernel
theorem d_Turtles_crossing_66 : decode b_Turtles_crossing 66 = .ok (.lstore 7, 2) := by decide +kernel
theorem d_Turtles_crossing_68 : decode b_Turtles_crossing 68 = .ok (.lload 5, 2) := by decide +kernel
theorem d_Turtles_crossing_70 : decode b_Turtles_crossing 70 = .ok (.lload 7, 2) := by decide +kernel
theorem d_Turtles_crossing_72 : decode b_Turtles_crossing 72 = .ok (.invokestatic 44, 3) := by decide +kernel
theorem d_Turtles_crossing_75 : decode b_Turtles_crossing 75 = .ok (.ladd, 1) := by decide +kernel
theorem d_Turtles_crossing_76 : decode b_Turtles_crossing 76 = .ok (.ldc2_w 113, 3) := by decide +kernel
theorem d_Turtles_crossing_79 : decode b_Turtles_crossing 79 = .ok (.invokestatic 50, 3) := by decide +kernel
theorem d_Turtles_crossing_82 : decode b_Turtles_crossing 82 = .ok (.lreturn, 1) := by decide +kernel
theorem lk_Turtles_113 : Cond.constantLong "TurtleWorld$Turtles" 113 6 ∈ tw_T := tw_i6 63 (by decide +kernel) (by decide +kernel)
def m_Heap_newList (n : Nat) (g : Nat → Nat) (i : Nat → Int32) (a : Nat → Nat → Int32) (v1 : Int32) (v2 : Int32) : Option ((Nat → Int32) × (Nat → Nat → Int32) × (Nat → Nat) × (Nat × Nat) × Int32) := if v1 < ((0 : Int32)) then some (i, a, g, (0, 0), (-2147483648)) else if ((8191 : Int32)) < v1 then some (i, a, g, (0, 0), (-2147483648)) else obG (m_Heap_reserve n g i a (v1 + 1)) (fun i_4 a_5 g_6 r_8 => if r_8 = ((0 : Int32)) then some (i_4, a_5, g_6, (0, 0), (-2147483648)) else ob1 (i_4 8 : Int32) (fun x_14 => ck x_14 (g_6 0) (ob1 (sv a_5 0 x_14.toNatClampNeg ((1073741824 ||| (v2 <<< ((13 : Int32) &&& 31))) ||| v1) : Nat → Nat → Int32) (fun a_16 => ob1 ((x_14 + 1) + v1 : Int32) (fun x_17 => ob1 (upd i_4 8 x_17 : Nat → Int32) (fun i_18 => some (i_18, a_16, g_6, (0, 0), (x_14 <<< ((2 : Int32) &&& 31)) ||| 1)))))))
set_option maxHeartbeats 4000000 in
set_option maxRecDepth 100000 in
theorem x_Heap_newList (l : Launch) (dC : Nat → ClassId) (dI : Nat → Nat → Nat) (cI : ClassId) (adK adV adA u o g : Nat → Nat) (sz : Nat) (n : Nat) {i : Nat → Int32} {a : Nat → Nat → Int32} {v1 : Int32} {v2 : Int32} {i2 : Nat → Int32} {a2 : Nat → Nat → Int32} {g2 : Nat → Nat} {k2 : Nat × Nat} {r2 : Int32} (hm : m_Heap_newList n g i a v1 v2 = some (i2, a2, g2, k2, r2)) : Met l y_Heap_newList w_Heap_newList ({ frames := 3, cells := k2.1, slots := k2.2, locals := 84 } : Room) (va_Pc [.ref ((u 1)), .int v1, .int v2] (xE dC dI cI adK adV adA u o g i a sz)) (va_Qi (xRg r2) (xBg dC dI cI u g2 i2 a2 (va_A (TW cI u o i a g) sz)) (va_A (TW cI u o i a g) sz)) k2.1 k2.2 ((va_A (TW cI u o i a g) sz)) := by
  refine Met.ofW (cc := b_Heap_newList) (maxL := 4) (ret := (some .int)) (by decide) rfl ?_
  intro p e s m args below meth c s₁ B hml hv
  obtain ⟨rfl, hsz, hP, hK, hE, hD0⟩ := hv
  have hx := B.exec
  have hb := B.bytes
  have hr := B.returns
  have hts := atoms_spec (ws := w_Heap_newList) B.pre
  have htt : ∀ w ∈ tw_T, w.before _ s = true := fun w h => hts w (List.mem_cons_of_mem _ h)
  have hown : s.vm.findClass R_Heap = some m.cls := findClass_of_methodNamed B.named
  have hlocks := B.notSynchronized
  subst hsz
  have hD := hD0.self (sz := s.heap.size)
  generalize hAe : (va_A (TW cI u o i a g) s.heap.size) = A at hD hE ⊢
  have hA : ∀ q : Nat, s.heap.size ≤ q → A q := fun q h => by rw [← hAe]; exact Or.inr h
  have hS : va_S A s.heap s.heap [] := va_S.rf
  obtain ⟨mc, ms, emc, ems⟩ : ∃ mc ms : Nat, k2.1 = mc ∧ k2.2 = ms := ⟨_, _, rfl, rfl⟩
  have hkc : 0 + k2.1 = mc := by rw [Nat.zero_add]; exact emc
  have hks : 0 + k2.2 = ms := by rw [Nat.zero_add]; exact ems
  rw [emc, ems]
  clear emc ems
  have hl := lv_entry ([.ref ((u 1)), .int v1, .int v2]) (n := 4) (Nat.le_of_ble_eq_true rfl)
  rw [lg_entry_eq]
  generalize (lg_sl ([.ref ((u 1)), .int v1, .int v2]) ++ List.replicate (4 - (lg_sl ([.ref ((u 1)), .int v1, .int v2])).length) Slot.unset).toArray = ls at hl ⊢
  have hl : lv_has ls 4 [(0, .ref ((u 1))), (1, .int v1), (2, .int v2)] := hl
  rw [m_Heap_newList] at hm
  refine lv_iload_n hx hb d_Heap_newList_0 rfl (lv_at hl 1 rfl) ?_
  refine lv_if_lt (tgt := 21) hx hb d_Heap_newList_1 (by decide) (fun c_1 => ?_) (fun c_1 => ?_)
  · replace hm := if_t c_1 hm
    refine lv_ldc (v := (-2147483648)) hx hb hown (htt _ lk_Heap_71) d_Heap_newList_21 ?_
    obtain ⟨e1, e2, e4, e5, e6, e3⟩ := re5 hm
    obtain ⟨hP, hD⟩ := x_eqg e1 e2 e4 hP hD
    refine W.widen (k := mc) (n := ms) (show 0 ≤ mc by omega) (show 0 ≤ ms by omega) ?_
    exact W.iret hx hb hr (fun t9 ht hW => ⟨⟨_, o, rfl, e3.symm, by rw [ht]; exact hP, hD⟩, hS.F ht⟩) hS.2.2 d_Heap_newList_23
  · replace hm := if_f c_1 hm
    refine lv_iload_n hx hb d_Heap_newList_4 rfl (lv_at hl 1 rfl) ?_
    refine lv_sipush (v := 8191) hx hb d_Heap_newList_5 (by decide) ?_
    refine lv_icmp_gt (tgt := 21) hx hb d_Heap_newList_8 (by decide) (fun c_2 => ?_) (fun c_2 => ?_)
    · replace hm := if_t c_2 hm
      refine lv_ldc (v := (-2147483648)) hx hb hown (htt _ lk_Heap_71) d_Heap_newList_21 ?_
      obtain ⟨e1, e2, e4, e5, e6, e3⟩ := re5 hm
      obtain ⟨hP, hD⟩ := x_eqg e1 e2 e4 hP hD
      refine W.widen (k := mc) (n := ms) (show 0 ≤ mc by omega) (show 0 ≤ ms by omega) ?_
      exact W.iret hx hb hr (fun t9 ht hW => ⟨⟨_, o, rfl, e3.symm, by rw [ht]; exact hP, hD⟩, hS.F ht⟩) hS.2.2 d_Heap_newList_23
    · replace hm := if_f c_2 hm
      refine lv_aload_n hx hb d_Heap_newList_11 rfl (lv_at hl 0 rfl) ?_
      refine lv_iload_n hx hb d_Heap_newList_12 rfl (lv_at hl 1 rfl) ?_
      refine lv_iconst (v := 1) hx hb d_Heap_newList_13 (by decide) ?_
      refine lv_iadd hx hb d_Heap_newList_14 ?_
      obtain ⟨i_4, a_5, g_6, k_7, r_8, k_9, h_3, hm, e7, e8⟩ := obG_some hm
      have hFc := x_free hD hS hA
      refine xg_calli (va_runV (As := [.int (v1 + 1)]) (rest := []) ⟨hx, hb, hml, hown, hts⟩ (x_Heap_reserve l dC dI cI adK adV adA u o g s.heap.size n h_3) (cwV 1 hts (tw_GV tw_cons cw_Heap_reserve lk_Heap_102 in_Heap_reserve sel_Heap_reserve ini_Heap) rfl rfl rfl ⟨rfl, hd_Heap_reserve⟩ ⟨Nat.le_of_ble_eq_true rfl, Nat.le_of_ble_eq_true rfl⟩) (xpV hK hP hD hS hE hFc xo_1 rfl) rfl rfl hl.1 rfl (lv_room (Nat.le_of_ble_eq_true rfl)) d_Heap_newList_15 ⟨show 0 + k_7.1 ≤ mc by omega, show 0 + k_7.2 ≤ ms by omega⟩) hS (fun q _ h => hFc q h) hFc (fun kc_11 ks_12 r9 o_10 t9 H locs ekc eks ht hvm e9 hB hz1 hk1 hS => ?_)
      replace hkc : kc_11 + k_9.1 = mc := by omega
      replace hks : ks_12 + k_9.2 = ms := by omega
      clear e7 e8
      clear ekc eks
      have e9 : r_8 = r9 := e9
      subst e9
      obtain ⟨hP, hD⟩ := x_aftg hB ht hFc
      clear hFc hk1 hz1 hvm hB ht
      refine lv_if_ne (tgt := 24) hx hb d_Heap_newList_18 (by decide) (fun c_13 => ?_) (fun c_13 => ?_)
      · replace hm := if_f c_13 hm
        refine lv_aload_n hx hb d_Heap_newList_24 rfl (lv_at hl 0 rfl) ?_
        refine va_get (D := (dC, dI)) (ci := 1) (v := .int (i_4 8)) (C := R_Heap) (T := F_Heap) (N := 12) hx hb htt iw_Heap hown hK hP 1 xo_1 rfl 7 (Nat.le_of_ble_eq_true rfl) (htt _ lk_Heap_18) (fun _ h9 => h9) xg_1_7 d_Heap_newList_25 ?_
        refine lv_topi (fun x_14 ex_14 => ?_)
        replace hm := ob1_at ex_14 hm
        refine lv_istore_n (lv' := [(3, .int x_14), (0, .ref ((u 1))), (1, .int v1), (2, .int v2)]) hx hb d_Heap_newList_28 rfl hl (by decide) rfl (fun ls hl => ?_)
        refine lv_aload_n hx hb d_Heap_newList_29 rfl (lv_at hl 1 rfl) ?_
        refine va_get (D := (dC, dI)) (ci := 1) (v := .ref ((o_10 0))) (C := R_Heap) (T := F_Heap) (N := 12) hx hb htt iw_Heap hown hK hP 1 xo_1 rfl 5 (Nat.le_of_ble_eq_true rfl) (htt _ lk_Heap_11) (fun _ h9 => h9) xg_1_5 d_Heap_newList_30 ?_
        refine lv_iload_n hx hb d_Heap_newList_33 rfl (lv_at hl 0 rfl) ?_
        refine lv_ldc (v := 1073741824) hx hb hown (htt _ lk_Heap_118) d_Heap_newList_34 ?_
        refine lv_iload_n hx hb d_Heap_newList_36 rfl (lv_at hl 3 rfl) ?_
        refine lv_bipush (v := 13) hx hb d_Heap_newList_37 (by decide) ?_
        refine lv_ishl hx hb d_Heap_newList_39 ?_
        refine lv_ior hx hb d_Heap_newList_40 ?_
        refine lv_iload_n hx hb d_Heap_newList_41 rfl (lv_at hl 2 rfl) ?_
        refine lv_ior hx hb d_Heap_newList_42 ?_
        obtain ⟨h_15, hm⟩ := ck_some hm
        refine va_iast hx hb hK hP hD hS 12 0 twA_0 rfl h_15 d_Heap_newList_43 (fun H locs hP hD hS => ?_)
        obtain ⟨a_16, ea_16⟩ : ∃ y9 : Nat → Nat → Int32, y9 = sv a_5 0 x_14.toNatClampNeg ((1073741824 ||| (v2 <<< ((13 : Int32) &&& 31))) ||| v1) := ⟨_, rfl⟩
        replace hm := ob1_at ea_16 hm
        obtain ⟨hP, hD⟩ := xv_0 ea_16 hP hD
        refine lv_aload_n hx hb d_Heap_newList_44 rfl (lv_at hl 1 rfl) ?_
        refine lv_iload_n hx hb d_Heap_newList_45 rfl (lv_at hl 0 rfl) ?_
        refine lv_iconst (v := 1) hx hb d_Heap_newList_46 (by decide) ?_
        refine lv_iadd hx hb d_Heap_newList_47 ?_
        refine lv_iload_n hx hb d_Heap_newList_48 rfl (lv_at hl 2 rfl) ?_
        refine lv_iadd hx hb d_Heap_newList_49 ?_
        refine lv_topi (fun x_17 ex_17 => ?_)
        replace hm := ob1_at ex_17 hm
        refine va_put (D := (dC, dI)) (ci := 1) (v := .int x_17) (ty := .int) (C := R_Heap) (T := F_Heap) (N := 12) hx hb htt iw_Heap t_Heap t_Heap_ok n_Heap hown hK hP hD hS 1 xo_1 rfl 7 (Nat.le_of_ble_eq_true rfl) (htt _ lk_Heap_18) (fun _ h9 => h9) rfl (by decide +kernel) rfl rfl xl_1_7 d_Heap_newList_50 (fun H locs hP hD hS => ?_)
        obtain ⟨i_18, ei_18⟩ : ∃ y9 : Nat → Int32, y9 = upd i_4 8 x_17 := ⟨_, rfl⟩
        replace hm := ob1_at ei_18 hm
        obtain ⟨hP, hD⟩ := xw_8 ei_18 hP hD
        refine lv_iload_n hx hb d_Heap_newList_53 rfl (lv_at hl 0 rfl) ?_
        refine lv_iconst (v := 2) hx hb d_Heap_newList_54 (by decide) ?_
        refine lv_ishl hx hb d_Heap_newList_55 ?_
        refine lv_iconst (v := 1) hx hb d_Heap_newList_56 (by decide) ?_
        refine lv_ior hx hb d_Heap_newList_57 ?_
        obtain ⟨e1, e2, e4, e5, e6, e3⟩ := re5 hm
        obtain ⟨hP, hD⟩ := x_eqg e1 e2 e4 hP hD
        refine W.widen (k := mc) (n := ms) (show kc_11 ≤ mc by omega) (show ks_12 ≤ ms by omega) ?_
        exact W.iret hx hb hr (fun t9 ht hW => ⟨⟨_, o_10, rfl, e3.symm, by rw [ht]; exact hP, hD⟩, hS.F ht⟩) hS.2.2 d_Heap_newList_58
      · replace hm := if_t c_13 hm
        refine lv_ldc (v := (-2147483648)) hx hb hown (htt _ lk_Heap_71) d_Heap_newList_21 ?_
        obtain ⟨e1, e2, e4, e5, e6, e3⟩ := re5 hm
        obtain ⟨hP, hD⟩ := x_eqg e1 e2 e4 hP hD
        refine W.widen (k := mc) (n := ms) (show kc_11 ≤ mc by omega) (show ks_12 ≤ ms by omega) ?_
        exact W.iret hx hb hr (fun t9 ht hW => ⟨⟨_, o_10, rfl, e3.symm, by rw [ht]; exact hP, hD⟩, hS.F ht⟩) hS.2.2 d_Heap_newList_23

def m_Reader_takeTo (n : Nat) (g : Nat → Nat) (i : Nat → Int32) (a : Nat → Nat → Int32) (v1 : Int32) (v2 : Int32) : Option ((Nat → Int32) × (Nat → Nat → Int32) × Int32) := if v1 = ((84 : Int32)) then ob1 (upd i 32 1 : Nat → Int32) (fun i_6 => some (i_6, a, (0 : Int32))) else ob (m_Reader_blame n g i a (7 : Int32) v2) (fun i_3 a_4 r_5 => some (i_3, a_4, (0 : Int32)))
set_option maxHeartbeats 4000000 in
set_option maxRecDepth 100000 in
theorem x_Reader_takeTo (l : Launch) (dC : Nat → ClassId) (dI : Nat → Nat → Nat) (cI : ClassId) (adK adV adA u o g : Nat → Nat) (sz : Nat) (n : Nat) {i : Nat → Int32} {a : Nat → Nat → Int32} {v1 : Int32} {v2 : Int32} {i2 : Nat → Int32} {a2 : Nat → Nat → Int32} {r2 : Int32} (hm : m_Reader_takeTo n g i a v1 v2 = some (i2, a2, r2)) : Met l y_Reader_takeTo w_Reader_takeTo ({ frames := 1, cells := 0, slots := 0, locals := 22 } : Room) (va_Pc [.ref ((u 7)), .int v1, .int v2] (xE dC dI cI adK adV adA u o g i a sz)) (va_Qv xV (xB dC dI cI u o g i2 a2 (va_A (TW cI u o i a g) sz)) (va_A (TW cI u o i a g) sz)) 0 0 ((va_A (TW cI u o i a g) sz)) := by
  refine Met.ofW (cc := b_Reader_takeTo) (maxL := 3) (ret := none) (by decide) rfl ?_
  intro p e s m args below meth c s₁ B hml hv
  obtain ⟨rfl, hsz, hP, hK, hE, hD0⟩ := hv
  have hx := B.exec
  have hb := B.bytes
  have hr := B.returns
  have hts := atoms_spec (ws := w_Reader_takeTo) B.pre
  have htt : ∀ w ∈ tw_T, w.before _ s = true := fun w h => hts w (List.mem_cons_of_mem _ h)
  have hown : s.vm.findClass R_Reader = some m.cls := findClass_of_methodNamed B.named
  have hlocks := B.notSynchronized
  subst hsz
  have hD := hD0.self (sz := s.heap.size)
  generalize hAe : (va_A (TW cI u o i a g) s.heap.size) = A at hD hE ⊢
  have hA : ∀ q : Nat, s.heap.size ≤ q → A q := fun q h => by rw [← hAe]; exact Or.inr h
  have hS : va_S A s.heap s.heap [] := va_S.rf
  have hl := lv_entry ([.ref ((u 7)), .int v1, .int v2]) (n := 3) (Nat.le_of_ble_eq_true rfl)
  rw [lg_entry_eq]
  generalize (lg_sl ([.ref ((u 7)), .int v1, .int v2]) ++ List.replicate (3 - (lg_sl ([.ref ((u 7)), .int v1, .int v2])).length) Slot.unset).toArray = ls at hl ⊢
  have hl : lv_has ls 3 [(0, .ref ((u 7))), (1, .int v1), (2, .int v2)] := hl
  rw [m_Reader_takeTo] at hm
  refine lv_iload_n hx hb d_Reader_takeTo_0 rfl (lv_at hl 1 rfl) ?_
  refine lv_bipush (v := 84) hx hb d_Reader_takeTo_1 (by decide) ?_
  refine lv_icmp_ne (tgt := 14) hx hb d_Reader_takeTo_3 (by decide) (fun c_1 => ?_) (fun c_1 => ?_)
  · replace hm := if_f c_1 hm
    refine lv_aload_n hx hb d_Reader_takeTo_14 rfl (lv_at hl 0 rfl) ?_
    refine lv_bipush (v := 7) hx hb d_Reader_takeTo_15 (by decide) ?_
    refine lv_iload_n hx hb d_Reader_takeTo_17 rfl (lv_at hl 2 rfl) ?_
    obtain ⟨i_3, a_4, r_5, h_2, hm⟩ := ob_some hm
    have hFc := x_free hD hS hA
    refine va_callv (va_runV (As := [.int 7, .int v2]) (rest := []) ⟨hx, hb, hml, hown, hts⟩ (x_Reader_blame l dC dI cI adK adV adA u o g s.heap.size n h_2) (cwV 2 hts (tw_GV tw_cons cw_Reader_blame lk_Reader_54 in_Reader_blame sel_Reader_blame ini_Reader) rfl rfl rfl ⟨rfl, hd_Reader_blame⟩ ⟨Nat.le_of_ble_eq_true rfl, Nat.le_of_ble_eq_true rfl⟩) (xpV hK hP hD hS hE hFc xo_7 rfl) rfl rfl hl.1 rfl (lv_room (Nat.le_of_ble_eq_true rfl)) d_Reader_takeTo_18 ⟨Nat.le_of_ble_eq_true rfl, Nat.le_of_ble_eq_true rfl⟩) hS (fun q _ h => hFc q h) hFc (fun u9 t9 H locs ht hvm e9 hB hz1 hk1 hS => ?_)
    obtain ⟨hP, hD⟩ := x_aft hB ht hFc
    clear hFc hk1 hz1 hvm hB ht
    obtain ⟨e1i, e1a, e3⟩ := re3 hm
    obtain ⟨hP, hD⟩ := x_eq e1i e1a hP hD
    exact W.vret hx hb hr (fun t9 ht hW => ⟨⟨(), rfl, trivial, by rw [ht]; exact hP, hD⟩, hS.F ht⟩) hS.2.2 d_Reader_takeTo_21
  · replace hm := if_t c_1 hm
    refine lv_aload_n hx hb d_Reader_takeTo_6 rfl (lv_at hl 0 rfl) ?_
    refine lv_iconst (v := 1) hx hb d_Reader_takeTo_7 (by decide) ?_
    refine va_put (D := (dC, dI)) (ci := 7) (v := .int 1) (ty := .int) (C := R_Reader) (T := F_Reader) (N := 19) hx hb htt iw_Reader t_Reader t_Reader_ok n_Reader hown hK hP hD hS 7 xo_7 rfl 13 (Nat.le_of_ble_eq_true rfl) (htt _ lk_Reader_72) (fun _ h9 => h9) rfl (by decide +kernel) rfl rfl xl_7_13 d_Reader_takeTo_8 (fun H locs hP hD hS => ?_)
    obtain ⟨i_6, ei_6⟩ : ∃ y9 : Nat → Int32, y9 = upd i 32 1 := ⟨_, rfl⟩
    replace hm := ob1_at ei_6 hm
    obtain ⟨hP, hD⟩ := xw_32 ei_6 hP hD
    refine lv_goto (tgt := 21) hx hb d_Reader_takeTo_11 (by decide) ?_
    obtain ⟨e1i, e1a, e3⟩ := re3 hm
    obtain ⟨hP, hD⟩ := x_eq e1i e1a hP hD
    exact W.vret hx hb hr (fun t9 ht hW => ⟨⟨(), rfl, trivial, by rw [ht]; exact hP, hD⟩, hS.F ht⟩) hS.2.2 d_Reader_takeTo_21

def m_Procedures_find_b2 (n : Nat) (g : Nat → Nat) (i : Nat → Int32) (a : Nat → Nat → Int32) : Nat → Int32 → Int32 → Option (Int32)
  | 0, _, _ => none
  | f + 1, v1, v2 => if ((i 15)) ≤ v2 then some ((-1)) else ck v2 40 (ob0 (m_Heap_sameWord n g i a (a 15 v2.toNatClampNeg) v1) (fun r_4 => if r_4 = ((0 : Int32)) then ob1 (v2 + 1 : Int32) (fun x_6 => m_Procedures_find_b2 n g i a f v1 x_6) else some v2))
set_option maxHeartbeats 4000000 in
set_option maxRecDepth 100000 in
theorem lb_Procedures_find_2 (l : Launch) (dC : Nat → ClassId) (dI : Nat → Nat → Nat) (cI : ClassId) (adK adV adA u o g : Nat → Nat) (n : Nat) {p : Program} {e : Env} {s : State} {m : MethodId} {args : Array Value} {below : List Frame} {meth : Method} {c : Code} {A : Nat → Prop} (hx : p.tables.exec = Jvm.exec) (hb : c.code = b_Procedures_find) (hml : c.maxLocals = 3) (hown : s.vm.findClass R_Procedures = some m.cls) (hts : ∀ w ∈ w_Procedures_find, w.before args s = true) (hK : va_K (dC, dI) classes [(cI, .int)] s) (hE : tw_E adK adV adA A s s.heap) (hA : ∀ q : Nat, s.heap.size ≤ q → A q) (hr : meth.sig.returnType = (some .int)) (hlocks : meth.locks = false) {i : Nat → Int32} {a : Nat → Nat → Int32} {r2 : Int32} : ∀ (f : Nat) (v1 : Int32) (v2 : Int32), m_Procedures_find_b2 n g i a f v1 v2 = some r2 → ∀ (H : Heap) (locs : List Loc) (ls : Array Slot), va_P (dC, dI) classes (TW cI u o i a g) H → va_S A s.heap H locs → lv_has ls 3 [(0, .ref ((u 4))), (1, .int v1), (2, .int v2)] → W p l e ({ frames := 1, cells := 0, slots := 0, locals := 26 } : Room) s m args below meth c H locs 0 0 (MQ below (va_Qi (xR r2) xT A) args s 0 0 A) (F0 m 2 ls []) := by
  have htt : ∀ w ∈ tw_T, w.before _ s = true := fun w h => hts w (List.mem_cons_of_mem _ h)
  intro f
  induction f with
  | zero =>
    intro v1 v2 hm
    rw [m_Procedures_find_b2] at hm
    cases hm
  | succ f ih =>
    intro v1 v2 hm H locs ls hP hS hl
    rw [m_Procedures_find_b2] at hm
    refine lv_iload_n hx hb d_Procedures_find_2 rfl (lv_at hl 2 rfl) ?_
    refine lv_aload_n hx hb d_Procedures_find_3 rfl (lv_at hl 0 rfl) ?_
    refine va_get (D := (dC, dI)) (ci := 4) (v := .int (i 15)) (C := R_Procedures) (T := F_Procedures) (N := 8) hx hb htt iw_Procedures hown hK hP 4 xo_4 rfl 4 (Nat.le_of_ble_eq_true rfl) (htt _ lk_Procedures_31) (fun _ h9 => h9) xg_4_4 d_Procedures_find_4 ?_
    refine lv_icmp_ge (tgt := 35) hx hb d_Procedures_find_7 (by decide) (fun c_1 => ?_) (fun c_1 => ?_)
    · replace hm := if_t c_1 hm
      refine lv_iconst (v := -1) hx hb d_Procedures_find_35 (by decide) ?_
      have e3 := re1 hm
      exact W.iret hx hb hr (fun t9 ht hW => ⟨⟨_, (), rfl, e3.symm, trivial⟩, hS.F ht⟩) hS.2.2 d_Procedures_find_36
    · replace hm := if_f c_1 hm
      refine lv_aload_n hx hb d_Procedures_find_10 rfl (lv_at hl 0 rfl) ?_
      refine va_get (D := (dC, dI)) (ci := 4) (v := .ref ((u 1))) (C := R_Procedures) (T := F_Procedures) (N := 8) hx hb htt iw_Procedures hown hK hP 4 xo_4 rfl 0 (Nat.le_of_ble_eq_true rfl) (htt _ lk_Procedures_27) (fun _ h9 => h9) xg_4_0 d_Procedures_find_11 ?_
      refine lv_aload_n hx hb d_Procedures_find_14 rfl (lv_at hl 0 rfl) ?_
      refine va_get (D := (dC, dI)) (ci := 4) (v := .ref ((u 25))) (C := R_Procedures) (T := F_Procedures) (N := 8) hx hb htt iw_Procedures hown hK hP 4 xo_4 rfl 1 (Nat.le_of_ble_eq_true rfl) (htt _ lk_Procedures_11) (fun _ h9 => h9) xg_4_1 d_Procedures_find_15 ?_
      refine lv_iload_n hx hb d_Procedures_find_18 rfl (lv_at hl 2 rfl) ?_
      obtain ⟨h_2, hm⟩ := ck_some hm
      refine va_iald hx hb hK hP 27 0 twA_15 rfl h_2 d_Procedures_find_19 ?_
      refine lv_iload_n hx hb d_Procedures_find_20 rfl (lv_at hl 1 rfl) ?_
      obtain ⟨r_4, h_3, hm⟩ := ob0_some hm
      have hFc := x_free0 hS hA
      refine va_calli (va_runV (As := [.int (a 15 v2.toNatClampNeg), .int v1]) (rest := []) ⟨hx, hb, hml, hown, hts⟩ (x_Heap_sameWord l dC dI cI adK adV adA u o g H.size n h_3) (cwV 2 hts (tw_GV tw_cons cw_Heap_sameWord lk_Procedures_35 in_Heap_sameWord sel_Heap_sameWord ini_Heap) rfl rfl rfl ⟨rfl, hd_Heap_sameWord⟩ ⟨Nat.le_of_ble_eq_true rfl, Nat.le_of_ble_eq_true rfl⟩) (xpVr hK hP hS hE hFc xo_1 rfl) rfl rfl hl.1 rfl (lv_room (Nat.le_of_ble_eq_true rfl)) d_Procedures_find_21 ⟨Nat.le_of_ble_eq_true rfl, Nat.le_of_ble_eq_true rfl⟩) hS (fun q _ h => hFc q h) hFc (fun r9 u9 t9 H locs ht hvm e9 hB hz1 hk1 hS => ?_)
      have e9 : r_4 = r9 := e9
      subst e9
      replace hP := x_keep hP hk1
      clear hFc hk1 hz1 hvm hB ht
      refine lv_if_eq (tgt := 29) hx hb d_Procedures_find_24 (by decide) (fun c_5 => ?_) (fun c_5 => ?_)
      · replace hm := if_t c_5 hm
        obtain ⟨x_6, ex_6⟩ : ∃ y9 : Int32, y9 = v2 + 1 := ⟨_, rfl⟩
        replace hm := ob1_at ex_6 hm
        refine lv_iinc (v := x_6) (lv' := [(2, .int x_6), (0, .ref ((u 4))), (1, .int v1)]) hx hb d_Procedures_find_29 hl (k := 2) rfl (by rw [ex_6]; rfl) (by decide) rfl (fun ls hl => ?_)
        refine lv_goto (tgt := 2) hx hb d_Procedures_find_32 (by decide) ?_
        exact ih _ _ hm _ _ _ hP hS (lv_sub hl [1, 2, 0] rfl)
      · replace hm := if_f c_5 hm
        refine lv_iload_n hx hb d_Procedures_find_27 rfl (lv_at hl 2 rfl) ?_
        have e3 := re1 hm
        exact W.iret hx hb hr (fun t9 ht hW => ⟨⟨_, (), rfl, e3.symm, trivial⟩, hS.F ht⟩) hS.2.2 d_Procedures_find_28
def m_Procedures_find (n : Nat) (g : Nat → Nat) (i : Nat → Int32) (a : Nat → Nat → Int32) (v1 : Int32) : Option (Int32) := m_Procedures_find_b2 n g i a n v1 (0 : Int32)
set_option maxHeartbeats 4000000 in
set_option maxRecDepth 100000 in
theorem x_Procedures_find (l : Launch) (dC : Nat → ClassId) (dI : Nat → Nat → Nat) (cI : ClassId) (adK adV adA u o g : Nat → Nat) (sz : Nat) (n : Nat) {i : Nat → Int32} {a : Nat → Nat → Int32} {v1 : Int32} {r2 : Int32} (hm : m_Procedures_find n g i a v1 = some r2) : Met l y_Procedures_find w_Procedures_find ({ frames := 1, cells := 0, slots := 0, locals := 26 } : Room) (va_Pc [.ref ((u 4)), .int v1] (xEr dC dI cI adK adV adA u o g i a sz)) (va_Qi (xR r2) xT (xN sz)) 0 0 (xN sz) := by
  refine Met.ofW (cc := b_Procedures_find) (maxL := 3) (ret := (some .int)) (by decide) rfl ?_
  intro p e s m args below meth c s₁ B hml hv
  obtain ⟨rfl, hsz, hP, hK, hE⟩ := hv
  have hx := B.exec
  have hb := B.bytes
  have hr := B.returns
  have hts := atoms_spec (ws := w_Procedures_find) B.pre
  have htt : ∀ w ∈ tw_T, w.before _ s = true := fun w h => hts w (List.mem_cons_of_mem _ h)
  have hown : s.vm.findClass R_Procedures = some m.cls := findClass_of_methodNamed B.named
  have hlocks := B.notSynchronized
  subst hsz
  generalize hAe : xN s.heap.size = A at hE ⊢
  have hA : ∀ q : Nat, s.heap.size ≤ q → A q := fun q h => by rw [← hAe]; exact Or.inr h
  have hS : va_S A s.heap s.heap [] := va_S.rf
  have hl := lv_entry ([.ref ((u 4)), .int v1]) (n := 3) (Nat.le_of_ble_eq_true rfl)
  rw [lg_entry_eq]
  generalize (lg_sl ([.ref ((u 4)), .int v1]) ++ List.replicate (3 - (lg_sl ([.ref ((u 4)), .int v1])).length) Slot.unset).toArray = ls at hl ⊢
  have hl : lv_has ls 3 [(0, .ref ((u 4))), (1, .int v1)] := hl
  rw [m_Procedures_find] at hm
  refine lv_iconst (v := 0) hx hb d_Procedures_find_0 (by decide) ?_
  refine lv_istore_n (lv' := [(2, .int 0), (0, .ref ((u 4))), (1, .int v1)]) hx hb d_Procedures_find_1 rfl hl (by decide) rfl (fun ls hl => ?_)
  exact lb_Procedures_find_2 l dC dI cI adK adV adA u o g n hx hb hml hown hts hK hE hA hr hlocks n _ _ hm _ _ _ hP hS (lv_sub hl [1, 2, 0] rfl)

def m_Reader_takeInput_b23 (n : Nat) (g : Nat → Nat) (i : Nat → Int32) (a : Nat → Nat → Int32) (v2 : Int32) : Option ((Nat → Int32) × (Nat → Nat → Int32) × Int32) := ob (m_Reader_blame n g i a (9 : Int32) v2) (fun i_2 a_3 r_4 => some (i_2, a_3, (0 : Int32)))
set_option maxHeartbeats 4000000 in
set_option maxRecDepth 100000 in
theorem lb_Reader_takeInput_23 (l : Launch) (dC : Nat → ClassId) (dI : Nat → Nat → Nat) (cI : ClassId) (adK adV adA u o g : Nat → Nat) (n : Nat) {p : Program} {e : Env} {s : State} {m : MethodId} {args : Array Value} {below : List Frame} {meth : Method} {c : Code} {A : Nat → Prop} (hx : p.tables.exec = Jvm.exec) (hb : c.code = b_Reader_takeInput) (hml : c.maxLocals = 5) (hown : s.vm.findClass R_Reader = some m.cls) (hts : ∀ w ∈ w_Reader_takeInput, w.before args s = true) (hK : va_K (dC, dI) classes [(cI, .int)] s) (hE : tw_E adK adV adA A s s.heap) (hA : ∀ q : Nat, s.heap.size ≤ q → A q) (hr : meth.sig.returnType = none) (hlocks : meth.locks = false) {i2 : Nat → Int32} {a2 : Nat → Nat → Int32} {r2 : Int32} (i : Nat → Int32) (a : Nat → Nat → Int32) (v2 : Int32) (hm : m_Reader_takeInput_b23 n g i a v2 = some (i2, a2, r2)) : ∀ (H : Heap) (locs : List Loc) (ls : Array Slot), va_P (dC, dI) classes (TW cI u o i a g) H → va_D A (TW cI u o i a g) → va_S A s.heap H locs → lv_has ls 5 [(0, .ref ((u 7))), (2, .int v2)] → W p l e ({ frames := 1, cells := 0, slots := 0, locals := 26 } : Room) s m args below meth c H locs 0 0 (MQ below (va_Qv xV (xB dC dI cI u o g i2 a2 A) A) args s 0 0 A) (F0 m 23 ls []) := by
  have htt : ∀ w ∈ tw_T, w.before _ s = true := fun w h => hts w (List.mem_cons_of_mem _ h)
  intro H locs ls hP hD hS hl
  rw [m_Reader_takeInput_b23] at hm
  refine lv_aload_n hx hb d_Reader_takeInput_23 rfl (lv_at hl 0 rfl) ?_
  refine lv_bipush (v := 9) hx hb d_Reader_takeInput_24 (by decide) ?_
  refine lv_iload_n hx hb d_Reader_takeInput_26 rfl (lv_at hl 1 rfl) ?_
  obtain ⟨i_2, a_3, r_4, h_1, hm⟩ := ob_some hm
  have hFc := x_free hD hS hA
  refine va_callv (va_runV (As := [.int 9, .int v2]) (rest := []) ⟨hx, hb, hml, hown, hts⟩ (x_Reader_blame l dC dI cI adK adV adA u o g H.size n h_1) (cwV 2 hts (tw_GV tw_cons cw_Reader_blame lk_Reader_54 in_Reader_blame sel_Reader_blame ini_Reader) rfl rfl rfl ⟨rfl, hd_Reader_blame⟩ ⟨Nat.le_of_ble_eq_true rfl, Nat.le_of_ble_eq_true rfl⟩) (xpV hK hP hD hS hE hFc xo_7 rfl) rfl rfl hl.1 rfl (lv_room (Nat.le_of_ble_eq_true rfl)) d_Reader_takeInput_27 ⟨Nat.le_of_ble_eq_true rfl, Nat.le_of_ble_eq_true rfl⟩) hS (fun q _ h => hFc q h) hFc (fun u9 t9 H locs ht hvm e9 hB hz1 hk1 hS => ?_)
  obtain ⟨hP, hD⟩ := x_aft hB ht hFc
  clear hFc hk1 hz1 hvm hB ht
  obtain ⟨e1i, e1a, e3⟩ := re3 hm
  obtain ⟨hP, hD⟩ := x_eq e1i e1a hP hD
  exact W.vret hx hb hr (fun t9 ht hW => ⟨⟨(), rfl, trivial, by rw [ht]; exact hP, hD⟩, hS.F ht⟩) hS.2.2 d_Reader_takeInput_30
def m_Reader_takeInput_b68 (n : Nat) (g : Nat → Nat) (rc_34 : (Nat → Int32) → (Nat → Nat → Int32) → Int32 → Int32 → Int32 → Option ((Nat → Int32) × (Nat → Nat → Int32) × Int32)) (i : Nat → Int32) (a : Nat → Nat → Int32) (v2 : Int32) (v3 : Int32) (v4 : Int32) : Option ((Nat → Int32) × (Nat → Nat → Int32) × Int32) := ob1 (v4 + 1 : Int32) (fun x_1 => rc_34 i a v2 v3 x_1)
set_option maxHeartbeats 4000000 in
set_option maxRecDepth 100000 in
theorem lb_Reader_takeInput_68 (l : Launch) (dC : Nat → ClassId) (dI : Nat → Nat → Nat) (cI : ClassId) (adK adV adA u o g : Nat → Nat) (n : Nat) {p : Program} {e : Env} {s : State} {m : MethodId} {args : Array Value} {below : List Frame} {meth : Method} {c : Code} {A : Nat → Prop} (hx : p.tables.exec = Jvm.exec) (hb : c.code = b_Reader_takeInput) (hml : c.maxLocals = 5) (hown : s.vm.findClass R_Reader = some m.cls) (hts : ∀ w ∈ w_Reader_takeInput, w.before args s = true) (hK : va_K (dC, dI) classes [(cI, .int)] s) (hE : tw_E adK adV adA A s s.heap) (hA : ∀ q : Nat, s.heap.size ≤ q → A q) (hr : meth.sig.returnType = none) (hlocks : meth.locks = false) {i2 : Nat → Int32} {a2 : Nat → Nat → Int32} {r2 : Int32} (rc_34 : (Nat → Int32) → (Nat → Nat → Int32) → Int32 → Int32 → Int32 → Option ((Nat → Int32) × (Nat → Nat → Int32) × Int32)) (Hrc_34 : ∀ (i : Nat → Int32) (a : Nat → Nat → Int32) (v2 : Int32) (v3 : Int32) (v4 : Int32), rc_34 i a v2 v3 v4 = some (i2, a2, r2) → ∀ (H : Heap) (locs : List Loc) (ls : Array Slot), va_P (dC, dI) classes (TW cI u o i a g) H → va_D A (TW cI u o i a g) → va_S A s.heap H locs → lv_has ls 5 [(0, .ref ((u 7))), (2, .int v2), (3, .int v3), (4, .int v4)] → W p l e ({ frames := 1, cells := 0, slots := 0, locals := 26 } : Room) s m args below meth c H locs 0 0 (MQ below (va_Qv xV (xB dC dI cI u o g i2 a2 A) A) args s 0 0 A) (F0 m 34 ls [])) (i : Nat → Int32) (a : Nat → Nat → Int32) (v2 : Int32) (v3 : Int32) (v4 : Int32) (hm : m_Reader_takeInput_b68 n g rc_34 i a v2 v3 v4 = some (i2, a2, r2)) : ∀ (H : Heap) (locs : List Loc) (ls : Array Slot), va_P (dC, dI) classes (TW cI u o i a g) H → va_D A (TW cI u o i a g) → va_S A s.heap H locs → lv_has ls 5 [(0, .ref ((u 7))), (2, .int v2), (3, .int v3), (4, .int v4)] → W p l e ({ frames := 1, cells := 0, slots := 0, locals := 26 } : Room) s m args below meth c H locs 0 0 (MQ below (va_Qv xV (xB dC dI cI u o g i2 a2 A) A) args s 0 0 A) (F0 m 68 ls []) := by
  have htt : ∀ w ∈ tw_T, w.before _ s = true := fun w h => hts w (List.mem_cons_of_mem _ h)
  intro H locs ls hP hD hS hl
  rw [m_Reader_takeInput_b68] at hm
  obtain ⟨x_1, ex_1⟩ : ∃ y9 : Int32, y9 = v4 + 1 := ⟨_, rfl⟩
  replace hm := ob1_at ex_1 hm
  refine lv_iinc (v := x_1) (lv' := [(4, .int x_1), (0, .ref ((u 7))), (2, .int v2), (3, .int v3)]) hx hb d_Reader_takeInput_68 hl (k := 3) rfl (by rw [ex_1]; rfl) (by decide) rfl (fun ls hl => ?_)
  refine lv_goto (tgt := 34) hx hb d_Reader_takeInput_71 (by decide) ?_
  exact Hrc_34 _ _ _ _ _ hm _ _ _ hP hD hS (lv_sub hl [1, 2, 3, 0] rfl)
def m_Reader_takeInput_b34 (n : Nat) (g : Nat → Nat) : Nat → (Nat → Int32) → (Nat → Nat → Int32) → Int32 → Int32 → Int32 → Option ((Nat → Int32) × (Nat → Nat → Int32) × Int32)
  | 0, _, _, _, _, _ => none
  | f + 1, i, a, v2, v3, v4 => if ((i 28)) ≤ v4 then ob (m_Reader_addMember n g i a v3) (fun i_3 a_4 r_5 => some (i_3, a_4, (0 : Int32))) else ck v4 600 (ob0 (m_Heap_sameWord n g i a (a 32 v4.toNatClampNeg) v3) (fun r_8 => if r_8 = ((0 : Int32)) then m_Reader_takeInput_b68 n g (m_Reader_takeInput_b34 n g f) i a v2 v3 v4 else ob (m_Reader_blame n g i a (9 : Int32) v2) (fun i_11 a_12 r_13 => m_Reader_takeInput_b68 n g (m_Reader_takeInput_b34 n g f) i_11 a_12 v2 v3 v4)))
set_option maxHeartbeats 4000000 in
set_option maxRecDepth 100000 in
theorem lb_Reader_takeInput_34 (l : Launch) (dC : Nat → ClassId) (dI : Nat → Nat → Nat) (cI : ClassId) (adK adV adA u o g : Nat → Nat) (n : Nat) {p : Program} {e : Env} {s : State} {m : MethodId} {args : Array Value} {below : List Frame} {meth : Method} {c : Code} {A : Nat → Prop} (hx : p.tables.exec = Jvm.exec) (hb : c.code = b_Reader_takeInput) (hml : c.maxLocals = 5) (hown : s.vm.findClass R_Reader = some m.cls) (hts : ∀ w ∈ w_Reader_takeInput, w.before args s = true) (hK : va_K (dC, dI) classes [(cI, .int)] s) (hE : tw_E adK adV adA A s s.heap) (hA : ∀ q : Nat, s.heap.size ≤ q → A q) (hr : meth.sig.returnType = none) (hlocks : meth.locks = false) {i2 : Nat → Int32} {a2 : Nat → Nat → Int32} {r2 : Int32} : ∀ (f : Nat) (i : Nat → Int32) (a : Nat → Nat → Int32) (v2 : Int32) (v3 : Int32) (v4 : Int32), m_Reader_takeInput_b34 n g f i a v2 v3 v4 = some (i2, a2, r2) → ∀ (H : Heap) (locs : List Loc) (ls : Array Slot), va_P (dC, dI) classes (TW cI u o i a g) H → va_D A (TW cI u o i a g) → va_S A s.heap H locs → lv_has ls 5 [(0, .ref ((u 7))), (2, .int v2), (3, .int v3), (4, .int v4)] → W p l e ({ frames := 1, cells := 0, slots := 0, locals := 26 } : Room) s m args below meth c H locs 0 0 (MQ below (va_Qv xV (xB dC dI cI u o g i2 a2 A) A) args s 0 0 A) (F0 m 34 ls []) := by
  have htt : ∀ w ∈ tw_T, w.before _ s = true := fun w h => hts w (List.mem_cons_of_mem _ h)
  intro f
  induction f with
  | zero =>
    intro i a v2 v3 v4 hm
    rw [m_Reader_takeInput_b34] at hm
    cases hm
  | succ f ih =>
    intro i a v2 v3 v4 hm H locs ls hP hD hS hl
    rw [m_Reader_takeInput_b34] at hm
    refine lv_iload hx hb d_Reader_takeInput_34 (lv_at hl 3 rfl) ?_
    refine lv_aload_n hx hb d_Reader_takeInput_36 rfl (lv_at hl 0 rfl) ?_
    refine va_get (D := (dC, dI)) (ci := 7) (v := .int (i 28)) (C := R_Reader) (T := F_Reader) (N := 19) hx hb htt iw_Reader hown hK hP 7 xo_7 rfl 8 (Nat.le_of_ble_eq_true rfl) (htt _ lk_Reader_75) (fun _ h9 => h9) xg_7_8 d_Reader_takeInput_37 ?_
    refine lv_icmp_ge (tgt := 74) hx hb d_Reader_takeInput_40 (by decide) (fun c_1 => ?_) (fun c_1 => ?_)
    · replace hm := if_t c_1 hm
      refine lv_aload_n hx hb d_Reader_takeInput_74 rfl (lv_at hl 0 rfl) ?_
      refine lv_iload_n hx hb d_Reader_takeInput_75 rfl (lv_at hl 2 rfl) ?_
      obtain ⟨i_3, a_4, r_5, h_2, hm⟩ := ob_some hm
      have hFc := x_free hD hS hA
      refine va_callv (va_runV (As := [.int v3]) (rest := []) ⟨hx, hb, hml, hown, hts⟩ (x_Reader_addMember l dC dI cI adK adV adA u o g H.size n h_2) (cwV 1 hts (tw_GV tw_cons cw_Reader_addMember lk_Reader_128 in_Reader_addMember sel_Reader_addMember ini_Reader) rfl rfl rfl ⟨rfl, hd_Reader_addMember⟩ ⟨Nat.le_of_ble_eq_true rfl, Nat.le_of_ble_eq_true rfl⟩) (xpV hK hP hD hS hE hFc xo_7 rfl) rfl rfl hl.1 rfl (lv_room (Nat.le_of_ble_eq_true rfl)) d_Reader_takeInput_76 ⟨Nat.le_of_ble_eq_true rfl, Nat.le_of_ble_eq_true rfl⟩) hS (fun q _ h => hFc q h) hFc (fun u9 t9 H locs ht hvm e9 hB hz1 hk1 hS => ?_)
      obtain ⟨hP, hD⟩ := x_aft hB ht hFc
      clear hFc hk1 hz1 hvm hB ht
      obtain ⟨e1i, e1a, e3⟩ := re3 hm
      obtain ⟨hP, hD⟩ := x_eq e1i e1a hP hD
      exact W.vret hx hb hr (fun t9 ht hW => ⟨⟨(), rfl, trivial, by rw [ht]; exact hP, hD⟩, hS.F ht⟩) hS.2.2 d_Reader_takeInput_79
    · replace hm := if_f c_1 hm
      refine lv_aload_n hx hb d_Reader_takeInput_43 rfl (lv_at hl 0 rfl) ?_
      refine va_get (D := (dC, dI)) (ci := 7) (v := .ref ((u 1))) (C := R_Reader) (T := F_Reader) (N := 19) hx hb htt iw_Reader hown hK hP 7 xo_7 rfl 0 (Nat.le_of_ble_eq_true rfl) (htt _ lk_Reader_30) (fun _ h9 => h9) xg_7_0 d_Reader_takeInput_44 ?_
      refine lv_aload_n hx hb d_Reader_takeInput_47 rfl (lv_at hl 0 rfl) ?_
      refine va_get (D := (dC, dI)) (ci := 7) (v := .ref ((u 42))) (C := R_Reader) (T := F_Reader) (N := 19) hx hb htt iw_Reader hown hK hP 7 xo_7 rfl 7 (Nat.le_of_ble_eq_true rfl) (htt _ lk_Reader_15) (fun _ h9 => h9) xg_7_7 d_Reader_takeInput_48 ?_
      refine lv_iload hx hb d_Reader_takeInput_51 (lv_at hl 3 rfl) ?_
      obtain ⟨h_6, hm⟩ := ck_some hm
      refine va_iald hx hb hK hP 44 0 twA_32 rfl h_6 d_Reader_takeInput_53 ?_
      refine lv_iload_n hx hb d_Reader_takeInput_54 rfl (lv_at hl 2 rfl) ?_
      obtain ⟨r_8, h_7, hm⟩ := ob0_some hm
      have hFc := x_free0 hS hA
      refine va_calli (va_runV (As := [.int (a 32 v4.toNatClampNeg), .int v3]) (rest := []) ⟨hx, hb, hml, hown, hts⟩ (x_Heap_sameWord l dC dI cI adK adV adA u o g H.size n h_7) (cwV 2 hts (tw_GV tw_cons cw_Heap_sameWord lk_Reader_164 in_Heap_sameWord sel_Heap_sameWord ini_Heap) rfl rfl rfl ⟨rfl, hd_Heap_sameWord⟩ ⟨Nat.le_of_ble_eq_true rfl, Nat.le_of_ble_eq_true rfl⟩) (xpVr hK hP hS hE hFc xo_1 rfl) rfl rfl hl.1 rfl (lv_room (Nat.le_of_ble_eq_true rfl)) d_Reader_takeInput_55 ⟨Nat.le_of_ble_eq_true rfl, Nat.le_of_ble_eq_true rfl⟩) hS (fun q _ h => hFc q h) hFc (fun r9 u9 t9 H locs ht hvm e9 hB hz1 hk1 hS => ?_)
      have e9 : r_8 = r9 := e9
      subst e9
      replace hP := x_keep hP hk1
      clear hFc hk1 hz1 hvm hB ht
      refine lv_if_eq (tgt := 68) hx hb d_Reader_takeInput_58 (by decide) (fun c_9 => ?_) (fun c_9 => ?_)
      · replace hm := if_t c_9 hm
        exact lb_Reader_takeInput_68 l dC dI cI adK adV adA u o g n hx hb hml hown hts hK hE hA hr hlocks (m_Reader_takeInput_b34 n g f) ih _ _ _ _ _ hm _ _ _ hP hD hS (lv_sub hl [0, 1, 2, 3] rfl)
      · replace hm := if_f c_9 hm
        refine lv_aload_n hx hb d_Reader_takeInput_61 rfl (lv_at hl 0 rfl) ?_
        refine lv_bipush (v := 9) hx hb d_Reader_takeInput_62 (by decide) ?_
        refine lv_iload_n hx hb d_Reader_takeInput_64 rfl (lv_at hl 1 rfl) ?_
        obtain ⟨i_11, a_12, r_13, h_10, hm⟩ := ob_some hm
        have hFc := x_free hD hS hA
        refine va_callv (va_runV (As := [.int 9, .int v2]) (rest := []) ⟨hx, hb, hml, hown, hts⟩ (x_Reader_blame l dC dI cI adK adV adA u o g H.size n h_10) (cwV 2 hts (tw_GV tw_cons cw_Reader_blame lk_Reader_54 in_Reader_blame sel_Reader_blame ini_Reader) rfl rfl rfl ⟨rfl, hd_Reader_blame⟩ ⟨Nat.le_of_ble_eq_true rfl, Nat.le_of_ble_eq_true rfl⟩) (xpV hK hP hD hS hE hFc xo_7 rfl) rfl rfl hl.1 rfl (lv_room (Nat.le_of_ble_eq_true rfl)) d_Reader_takeInput_65 ⟨Nat.le_of_ble_eq_true rfl, Nat.le_of_ble_eq_true rfl⟩) hS (fun q _ h => hFc q h) hFc (fun u9 t9 H locs ht hvm e9 hB hz1 hk1 hS => ?_)
        obtain ⟨hP, hD⟩ := x_aft hB ht hFc
        clear hFc hk1 hz1 hvm hB ht
        exact lb_Reader_takeInput_68 l dC dI cI adK adV adA u o g n hx hb hml hown hts hK hE hA hr hlocks (m_Reader_takeInput_b34 n g f) ih _ _ _ _ _ hm _ _ _ hP hD hS (lv_sub hl [0, 1, 2, 3] rfl)
def m_Reader_takeInput (n : Nat) (g : Nat → Nat) (i : Nat → Int32) (a : Nat → Nat → Int32) (v1 : Int32) (v2 : Int32) : Option ((Nat → Int32) × (Nat → Nat → Int32) × Int32) := ob0 (m_Heap_behind n g i a v1) (fun r_2 => if r_2 = ((-2147483648 : Int32)) then m_Reader_takeInput_b23 n g i a v2 else if ((i 28)) < ((5 : Int32)) then m_Reader_takeInput_b34 n g n i a v2 r_2 (0 : Int32) else m_Reader_takeInput_b23 n g i a v2)
set_option maxHeartbeats 4000000 in
set_option maxRecDepth 100000 in
theorem x_Reader_takeInput (l : Launch) (dC : Nat → ClassId) (dI : Nat → Nat → Nat) (cI : ClassId) (adK adV adA u o g : Nat → Nat) (sz : Nat) (n : Nat) {i : Nat → Int32} {a : Nat → Nat → Int32} {v1 : Int32} {v2 : Int32} {i2 : Nat → Int32} {a2 : Nat → Nat → Int32} {r2 : Int32} (hm : m_Reader_takeInput n g i a v1 v2 = some (i2, a2, r2)) : Met l y_Reader_takeInput w_Reader_takeInput ({ frames := 1, cells := 0, slots := 0, locals := 26 } : Room) (va_Pc [.ref ((u 7)), .int v1, .int v2] (xE dC dI cI adK adV adA u o g i a sz)) (va_Qv xV (xB dC dI cI u o g i2 a2 (va_A (TW cI u o i a g) sz)) (va_A (TW cI u o i a g) sz)) 0 0 ((va_A (TW cI u o i a g) sz)) := by
  refine Met.ofW (cc := b_Reader_takeInput) (maxL := 5) (ret := none) (by decide) rfl ?_
  intro p e s m args below meth c s₁ B hml hv
  obtain ⟨rfl, hsz, hP, hK, hE, hD0⟩ := hv
  have hx := B.exec
  have hb := B.bytes
  have hr := B.returns
  have hts := atoms_spec (ws := w_Reader_takeInput) B.pre
  have htt : ∀ w ∈ tw_T, w.before _ s = true := fun w h => hts w (List.mem_cons_of_mem _ h)
  have hown : s.vm.findClass R_Reader = some m.cls := findClass_of_methodNamed B.named
  have hlocks := B.notSynchronized
  subst hsz
  have hD := hD0.self (sz := s.heap.size)
  generalize hAe : (va_A (TW cI u o i a g) s.heap.size) = A at hD hE ⊢
  have hA : ∀ q : Nat, s.heap.size ≤ q → A q := fun q h => by rw [← hAe]; exact Or.inr h
  have hS : va_S A s.heap s.heap [] := va_S.rf
  have hl := lv_entry ([.ref ((u 7)), .int v1, .int v2]) (n := 5) (Nat.le_of_ble_eq_true rfl)
  rw [lg_entry_eq]
  generalize (lg_sl ([.ref ((u 7)), .int v1, .int v2]) ++ List.replicate (5 - (lg_sl ([.ref ((u 7)), .int v1, .int v2])).length) Slot.unset).toArray = ls at hl ⊢
  have hl : lv_has ls 5 [(0, .ref ((u 7))), (1, .int v1), (2, .int v2)] := hl
  rw [m_Reader_takeInput] at hm
  refine lv_aload_n hx hb d_Reader_takeInput_0 rfl (lv_at hl 0 rfl) ?_
  refine va_get (D := (dC, dI)) (ci := 7) (v := .ref ((u 1))) (C := R_Reader) (T := F_Reader) (N := 19) hx hb htt iw_Reader hown hK hP 7 xo_7 rfl 0 (Nat.le_of_ble_eq_true rfl) (htt _ lk_Reader_30) (fun _ h9 => h9) xg_7_0 d_Reader_takeInput_1 ?_
  refine lv_iload_n hx hb d_Reader_takeInput_4 rfl (lv_at hl 1 rfl) ?_
  obtain ⟨r_2, h_1, hm⟩ := ob0_some hm
  have hFc := x_free0 hS hA
  refine va_calli (va_runV (As := [.int v1]) (rest := []) ⟨hx, hb, hml, hown, hts⟩ (x_Heap_behind l dC dI cI adK adV adA u o g s.heap.size n h_1) (cwV 1 hts (tw_GV tw_cons cw_Heap_behind lk_Reader_171 in_Heap_behind sel_Heap_behind ini_Heap) rfl rfl rfl ⟨rfl, hd_Heap_behind⟩ ⟨Nat.le_of_ble_eq_true rfl, Nat.le_of_ble_eq_true rfl⟩) (xpVr hK hP hS hE hFc xo_1 rfl) rfl rfl hl.1 rfl (lv_room (Nat.le_of_ble_eq_true rfl)) d_Reader_takeInput_5 ⟨Nat.le_of_ble_eq_true rfl, Nat.le_of_ble_eq_true rfl⟩) hS (fun q _ h => hFc q h) hFc (fun r9 u9 t9 H locs ht hvm e9 hB hz1 hk1 hS => ?_)
  have e9 : r_2 = r9 := e9
  subst e9
  replace hP := x_keep hP hk1
  clear hFc hk1 hz1 hvm hB ht
  refine lv_istore_n (lv' := [(3, .int r_2), (0, .ref ((u 7))), (1, .int v1), (2, .int v2)]) hx hb d_Reader_takeInput_8 rfl hl (by decide) rfl (fun ls hl => ?_)
  refine lv_iload_n hx hb d_Reader_takeInput_9 rfl (lv_at hl 0 rfl) ?_
  refine lv_ldc (v := (-2147483648)) hx hb hown (htt _ lk_Reader_127) d_Reader_takeInput_10 ?_
  refine lv_icmp_eq (tgt := 23) hx hb d_Reader_takeInput_12 (by decide) (fun c_3 => ?_) (fun c_3 => ?_)
  · replace hm := if_t c_3 hm
    exact lb_Reader_takeInput_23 l dC dI cI adK adV adA u o g n hx hb hml hown hts hK hE hA hr hlocks _ _ _ hm _ _ _ hP hD hS (lv_sub hl [1, 3] rfl)
  · replace hm := if_f c_3 hm
    refine lv_aload_n hx hb d_Reader_takeInput_15 rfl (lv_at hl 1 rfl) ?_
    refine va_get (D := (dC, dI)) (ci := 7) (v := .int (i 28)) (C := R_Reader) (T := F_Reader) (N := 19) hx hb htt iw_Reader hown hK hP 7 xo_7 rfl 8 (Nat.le_of_ble_eq_true rfl) (htt _ lk_Reader_75) (fun _ h9 => h9) xg_7_8 d_Reader_takeInput_16 ?_
    refine lv_iconst (v := 5) hx hb d_Reader_takeInput_19 (by decide) ?_
    refine lv_icmp_lt (tgt := 31) hx hb d_Reader_takeInput_20 (by decide) (fun c_4 => ?_) (fun c_4 => ?_)
    · replace hm := if_t c_4 hm
      refine lv_iconst (v := 0) hx hb d_Reader_takeInput_31 (by decide) ?_
      refine lv_istore (lv' := [(4, .int 0), (3, .int r_2), (0, .ref ((u 7))), (1, .int v1), (2, .int v2)]) hx hb d_Reader_takeInput_32 hl (by decide) rfl (fun ls hl => ?_)
      exact lb_Reader_takeInput_34 l dC dI cI adK adV adA u o g n hx hb hml hown hts hK hE hA hr hlocks n _ _ _ _ _ hm _ _ _ hP hD hS (lv_sub hl [2, 4, 1, 0] rfl)
    · replace hm := if_f c_4 hm
      exact lb_Reader_takeInput_23 l dC dI cI adK adV adA u o g n hx hb hml hown hts hK hE hA hr hlocks _ _ _ hm _ _ _ hP hD hS (lv_sub hl [1, 3] rfl)

def m_Heap_movedList (n : Nat) (g : Nat → Nat) (i : Nat → Int32) (a : Nat → Nat → Int32) (v1 : Int32) : Option ((Nat → Int32) × (Nat → Nat → Int32) × (Nat → Nat) × (Nat × Nat) × Int32) := ck v1 (g 0) (ob1 (a 0 v1.toNatClampNeg : Int32) (fun x_2 => if ((0 : Int32)) ≤ x_2 then ob1 ((x_2 &&& 8191) + 1 : Int32) (fun x_4 => if (((nI (g 0)) - v1)) < x_4 then some (i, a, g, (0, 0), (-2147483648)) else obG (m_Heap_reserveSpare n g i a x_4) (fun i_7 a_8 g_9 r_11 => if r_11 = ((0 : Int32)) then some (i_7, a_8, g_9, (0, 0), (-2147483648)) else ob1 (i_7 9 : Int32) (fun x_17 => cy v1 x_17 x_4 (g_9 0) (g_9 1) (ob1 (updA a_8 1 (va_cpy (a_8 0) (a_8 1) v1.toNatClampNeg x_17.toNatClampNeg x_4.toNatClampNeg) : Nat → Nat → Int32) (fun a_19 => ob1 (x_17 + x_4 : Int32) (fun x_20 => ob1 (upd i_7 9 x_20 : Nat → Int32) (fun i_21 => ck v1 (g_9 0) (ob1 (sv a_19 0 v1.toNatClampNeg (-x_17) : Nat → Nat → Int32) (fun a_23 => some (i_21, a_23, g_9, (0, 0), (x_17 <<< ((2 : Int32) &&& 31)) ||| 1)))))))))) else some (i, a, g, (0, 0), ((-x_2) <<< ((2 : Int32) &&& 31)) ||| 1)))
set_option maxHeartbeats 4000000 in
set_option maxRecDepth 100000 in
theorem x_Heap_movedList (l : Launch) (dC : Nat → ClassId) (dI : Nat → Nat → Nat) (cI : ClassId) (adK adV adA u o g : Nat → Nat) (sz : Nat) (n : Nat) {i : Nat → Int32} {a : Nat → Nat → Int32} {v1 : Int32} {i2 : Nat → Int32} {a2 : Nat → Nat → Int32} {g2 : Nat → Nat} {k2 : Nat × Nat} {r2 : Int32} (hm : m_Heap_movedList n g i a v1 = some (i2, a2, g2, k2, r2)) : Met l y_Heap_movedList w_Heap_movedList ({ frames := 3, cells := k2.1, slots := k2.2, locals := 84 } : Room) (va_Pc [.ref ((u 1)), .int v1] (xE dC dI cI adK adV adA u o g i a sz)) (va_Qi (xRg r2) (xBg dC dI cI u g2 i2 a2 (va_A (TW cI u o i a g) sz)) (va_A (TW cI u o i a g) sz)) k2.1 k2.2 ((va_A (TW cI u o i a g) sz)) := by
  refine Met.ofW (cc := b_Heap_movedList) (maxL := 5) (ret := (some .int)) (by decide) rfl ?_
  intro p e s m args below meth c s₁ B hml hv
  obtain ⟨rfl, hsz, hP, hK, hE, hD0⟩ := hv
  have hx := B.exec
  have hb := B.bytes
  have hr := B.returns
  have hts := atoms_spec (ws := w_Heap_movedList) B.pre
  have htt : ∀ w ∈ tw_T, w.before _ s = true := fun w h => hts w (List.mem_cons_of_mem _ h)
  have hown : s.vm.findClass R_Heap = some m.cls := findClass_of_methodNamed B.named
  have hlocks := B.notSynchronized
  subst hsz
  have hD := hD0.self (sz := s.heap.size)
  generalize hAe : (va_A (TW cI u o i a g) s.heap.size) = A at hD hE ⊢
  have hA : ∀ q : Nat, s.heap.size ≤ q → A q := fun q h => by rw [← hAe]; exact Or.inr h
  have hS : va_S A s.heap s.heap [] := va_S.rf
  obtain ⟨mc, ms, emc, ems⟩ : ∃ mc ms : Nat, k2.1 = mc ∧ k2.2 = ms := ⟨_, _, rfl, rfl⟩
  have hkc : 0 + k2.1 = mc := by rw [Nat.zero_add]; exact emc
  have hks : 0 + k2.2 = ms := by rw [Nat.zero_add]; exact ems
  rw [emc, ems]
  clear emc ems
  have hl := lv_entry ([.ref ((u 1)), .int v1]) (n := 5) (Nat.le_of_ble_eq_true rfl)
  rw [lg_entry_eq]
  generalize (lg_sl ([.ref ((u 1)), .int v1]) ++ List.replicate (5 - (lg_sl ([.ref ((u 1)), .int v1])).length) Slot.unset).toArray = ls at hl ⊢
  have hl : lv_has ls 5 [(0, .ref ((u 1))), (1, .int v1)] := hl
  rw [m_Heap_movedList] at hm
  refine lv_aload_n hx hb d_Heap_movedList_0 rfl (lv_at hl 0 rfl) ?_
  refine va_get (D := (dC, dI)) (ci := 1) (v := .ref ((o 0))) (C := R_Heap) (T := F_Heap) (N := 12) hx hb htt iw_Heap hown hK hP 1 xo_1 rfl 5 (Nat.le_of_ble_eq_true rfl) (htt _ lk_Heap_11) (fun _ h9 => h9) xg_1_5 d_Heap_movedList_1 ?_
  refine lv_iload_n hx hb d_Heap_movedList_4 rfl (lv_at hl 1 rfl) ?_
  obtain ⟨h_1, hm⟩ := ck_some hm
  refine va_iald hx hb hK hP 12 0 twA_0 rfl h_1 d_Heap_movedList_5 ?_
  refine lv_topi (fun x_2 ex_2 => ?_)
  replace hm := ob1_at ex_2 hm
  refine lv_istore_n (lv' := [(2, .int x_2), (0, .ref ((u 1))), (1, .int v1)]) hx hb d_Heap_movedList_6 rfl hl (by decide) rfl (fun ls hl => ?_)
  refine lv_iload_n hx hb d_Heap_movedList_7 rfl (lv_at hl 0 rfl) ?_
  refine lv_if_ge (tgt := 18) hx hb d_Heap_movedList_8 (by decide) (fun c_3 => ?_) (fun c_3 => ?_)
  · replace hm := if_t c_3 hm
    refine lv_iload_n hx hb d_Heap_movedList_18 rfl (lv_at hl 0 rfl) ?_
    refine lv_sipush (v := 8191) hx hb d_Heap_movedList_19 (by decide) ?_
    refine lv_iand hx hb d_Heap_movedList_22 ?_
    refine lv_iconst (v := 1) hx hb d_Heap_movedList_23 (by decide) ?_
    refine lv_iadd hx hb d_Heap_movedList_24 ?_
    refine lv_topi (fun x_4 ex_4 => ?_)
    replace hm := ob1_at ex_4 hm
    refine lv_istore_n (lv' := [(3, .int x_4), (2, .int x_2), (0, .ref ((u 1))), (1, .int v1)]) hx hb d_Heap_movedList_25 rfl hl (by decide) rfl (fun ls hl => ?_)
    refine lv_iload_n hx hb d_Heap_movedList_26 rfl (lv_at hl 0 rfl) ?_
    refine lv_aload_n hx hb d_Heap_movedList_27 rfl (lv_at hl 2 rfl) ?_
    refine va_get (D := (dC, dI)) (ci := 1) (v := .ref ((o 0))) (C := R_Heap) (T := F_Heap) (N := 12) hx hb htt iw_Heap hown hK hP 1 xo_1 rfl 5 (Nat.le_of_ble_eq_true rfl) (htt _ lk_Heap_11) (fun _ h9 => h9) xg_1_5 d_Heap_movedList_28 ?_
    refine va_alen (v := nI (g 0)) hx hb hK hP 12 0 twA_0 rfl rfl d_Heap_movedList_31 ?_
    refine lv_iload_n hx hb d_Heap_movedList_32 rfl (lv_at hl 3 rfl) ?_
    refine lv_isub hx hb d_Heap_movedList_33 ?_
    refine lv_icmp_gt (tgt := 45) hx hb d_Heap_movedList_34 (by decide) (fun c_5 => ?_) (fun c_5 => ?_)
    · replace hm := if_t c_5 hm
      refine lv_ldc (v := (-2147483648)) hx hb hown (htt _ lk_Heap_71) d_Heap_movedList_45 ?_
      obtain ⟨e1, e2, e4, e5, e6, e3⟩ := re5 hm
      obtain ⟨hP, hD⟩ := x_eqg e1 e2 e4 hP hD
      refine W.widen (k := mc) (n := ms) (show 0 ≤ mc by omega) (show 0 ≤ ms by omega) ?_
      exact W.iret hx hb hr (fun t9 ht hW => ⟨⟨_, o, rfl, e3.symm, by rw [ht]; exact hP, hD⟩, hS.F ht⟩) hS.2.2 d_Heap_movedList_47
    · replace hm := if_f c_5 hm
      refine lv_aload_n hx hb d_Heap_movedList_37 rfl (lv_at hl 2 rfl) ?_
      refine lv_iload_n hx hb d_Heap_movedList_38 rfl (lv_at hl 0 rfl) ?_
      obtain ⟨i_7, a_8, g_9, k_10, r_11, k_12, h_6, hm, e7, e8⟩ := obG_some hm
      have hFc := x_free hD hS hA
      refine xg_calli (va_runV (As := [.int x_4]) (rest := []) ⟨hx, hb, hml, hown, hts⟩ (x_Heap_reserveSpare l dC dI cI adK adV adA u o g s.heap.size n h_6) (cwV 1 hts (tw_GV tw_cons cw_Heap_reserveSpare lk_Heap_165 in_Heap_reserveSpare sel_Heap_reserveSpare ini_Heap) rfl rfl rfl ⟨rfl, hd_Heap_reserveSpare⟩ ⟨Nat.le_of_ble_eq_true rfl, Nat.le_of_ble_eq_true rfl⟩) (xpV hK hP hD hS hE hFc xo_1 rfl) rfl rfl hl.1 rfl (lv_room (Nat.le_of_ble_eq_true rfl)) d_Heap_movedList_39 ⟨show 0 + k_10.1 ≤ mc by omega, show 0 + k_10.2 ≤ ms by omega⟩) hS (fun q _ h => hFc q h) hFc (fun kc_14 ks_15 r9 o_13 t9 H locs ekc eks ht hvm e9 hB hz1 hk1 hS => ?_)
      replace hkc : kc_14 + k_12.1 = mc := by omega
      replace hks : ks_15 + k_12.2 = ms := by omega
      clear e7 e8
      clear ekc eks
      have e9 : r_11 = r9 := e9
      subst e9
      obtain ⟨hP, hD⟩ := x_aftg hB ht hFc
      clear hFc hk1 hz1 hvm hB ht
      refine lv_if_ne (tgt := 48) hx hb d_Heap_movedList_42 (by decide) (fun c_16 => ?_) (fun c_16 => ?_)
      · replace hm := if_f c_16 hm
        refine lv_aload_n hx hb d_Heap_movedList_48 rfl (lv_at hl 2 rfl) ?_
        refine va_get (D := (dC, dI)) (ci := 1) (v := .int (i_7 9)) (C := R_Heap) (T := F_Heap) (N := 12) hx hb htt iw_Heap hown hK hP 1 xo_1 rfl 8 (Nat.le_of_ble_eq_true rfl) (htt _ lk_Heap_153) (fun _ h9 => h9) xg_1_8 d_Heap_movedList_49 ?_
        refine lv_topi (fun x_17 ex_17 => ?_)
        replace hm := ob1_at ex_17 hm
        refine lv_istore (lv' := [(4, .int x_17), (3, .int x_4), (2, .int x_2), (0, .ref ((u 1))), (1, .int v1)]) hx hb d_Heap_movedList_52 hl (by decide) rfl (fun ls hl => ?_)
        refine lv_aload_n hx hb d_Heap_movedList_54 rfl (lv_at hl 3 rfl) ?_
        refine va_get (D := (dC, dI)) (ci := 1) (v := .ref ((o_13 0))) (C := R_Heap) (T := F_Heap) (N := 12) hx hb htt iw_Heap hown hK hP 1 xo_1 rfl 5 (Nat.le_of_ble_eq_true rfl) (htt _ lk_Heap_11) (fun _ h9 => h9) xg_1_5 d_Heap_movedList_55 ?_
        refine lv_iload_n hx hb d_Heap_movedList_58 rfl (lv_at hl 4 rfl) ?_
        refine lv_aload_n hx hb d_Heap_movedList_59 rfl (lv_at hl 3 rfl) ?_
        refine va_get (D := (dC, dI)) (ci := 1) (v := .ref ((o_13 1))) (C := R_Heap) (T := F_Heap) (N := 12) hx hb htt iw_Heap hown hK hP 1 xo_1 rfl 6 (Nat.le_of_ble_eq_true rfl) (htt _ lk_Heap_15) (fun _ h9 => h9) xg_1_6 d_Heap_movedList_60 ?_
        refine lv_iload hx hb d_Heap_movedList_63 (lv_at hl 0 rfl) ?_
        refine lv_iload_n hx hb d_Heap_movedList_65 rfl (lv_at hl 1 rfl) ?_
        obtain ⟨h_18a, h_18b, h_18c, h_18d, h_18e, hm⟩ := cy_some hm
        refine va_copyi hx hb (by rw [hml]; exact hl.1.symm) hown (htt _ lk_Heap_106) (htt _ na_arraycopy) (htt _ st_arraycopy) (htt _ ini_System) hK hP hD hS 12 13 0 0 (ty := .int) twA_0 twA_1 rfl rfl rfl h_18a h_18b h_18c h_18d h_18e (fun _ _ => rfl) (Nat.le_of_ble_eq_true rfl) (Nat.le_of_ble_eq_true rfl) d_Heap_movedList_66 (fun H locs hP hD hS => ?_)
        obtain ⟨a_19, ea_19⟩ : ∃ y9 : Nat → Nat → Int32, y9 = updA a_8 1 (va_cpy (a_8 0) (a_8 1) v1.toNatClampNeg x_17.toNatClampNeg x_4.toNatClampNeg) := ⟨_, rfl⟩
        replace hm := ob1_at ea_19 hm
        obtain ⟨hP, hD⟩ := xv_1 ea_19 hP hD
        refine lv_aload_n hx hb d_Heap_movedList_69 rfl (lv_at hl 3 rfl) ?_
        refine lv_iload hx hb d_Heap_movedList_70 (lv_at hl 0 rfl) ?_
        refine lv_iload_n hx hb d_Heap_movedList_72 rfl (lv_at hl 1 rfl) ?_
        refine lv_iadd hx hb d_Heap_movedList_73 ?_
        refine lv_topi (fun x_20 ex_20 => ?_)
        replace hm := ob1_at ex_20 hm
        refine va_put (D := (dC, dI)) (ci := 1) (v := .int x_20) (ty := .int) (C := R_Heap) (T := F_Heap) (N := 12) hx hb htt iw_Heap t_Heap t_Heap_ok n_Heap hown hK hP hD hS 1 xo_1 rfl 8 (Nat.le_of_ble_eq_true rfl) (htt _ lk_Heap_153) (fun _ h9 => h9) rfl (by decide +kernel) rfl rfl xl_1_8 d_Heap_movedList_74 (fun H locs hP hD hS => ?_)
        obtain ⟨i_21, ei_21⟩ : ∃ y9 : Nat → Int32, y9 = upd i_7 9 x_20 := ⟨_, rfl⟩
        replace hm := ob1_at ei_21 hm
        obtain ⟨hP, hD⟩ := xw_9 ei_21 hP hD
        refine lv_aload_n hx hb d_Heap_movedList_77 rfl (lv_at hl 3 rfl) ?_
        refine va_get (D := (dC, dI)) (ci := 1) (v := .ref ((o_13 0))) (C := R_Heap) (T := F_Heap) (N := 12) hx hb htt iw_Heap hown hK hP 1 xo_1 rfl 5 (Nat.le_of_ble_eq_true rfl) (htt _ lk_Heap_11) (fun _ h9 => h9) xg_1_5 d_Heap_movedList_78 ?_
        refine lv_iload_n hx hb d_Heap_movedList_81 rfl (lv_at hl 4 rfl) ?_
        refine lv_iload hx hb d_Heap_movedList_82 (lv_at hl 0 rfl) ?_
        refine lv_ineg hx hb d_Heap_movedList_84 ?_
        obtain ⟨h_22, hm⟩ := ck_some hm
        refine va_iast hx hb hK hP hD hS 12 0 twA_0 rfl h_22 d_Heap_movedList_85 (fun H locs hP hD hS => ?_)
        obtain ⟨a_23, ea_23⟩ : ∃ y9 : Nat → Nat → Int32, y9 = sv a_19 0 v1.toNatClampNeg (-x_17) := ⟨_, rfl⟩
        replace hm := ob1_at ea_23 hm
        obtain ⟨hP, hD⟩ := xv_0 ea_23 hP hD
        refine lv_iload hx hb d_Heap_movedList_86 (lv_at hl 0 rfl) ?_
        refine lv_iconst (v := 2) hx hb d_Heap_movedList_88 (by decide) ?_
        refine lv_ishl hx hb d_Heap_movedList_89 ?_
        refine lv_iconst (v := 1) hx hb d_Heap_movedList_90 (by decide) ?_
        refine lv_ior hx hb d_Heap_movedList_91 ?_
        obtain ⟨e1, e2, e4, e5, e6, e3⟩ := re5 hm
        obtain ⟨hP, hD⟩ := x_eqg e1 e2 e4 hP hD
        refine W.widen (k := mc) (n := ms) (show kc_14 ≤ mc by omega) (show ks_15 ≤ ms by omega) ?_
        exact W.iret hx hb hr (fun t9 ht hW => ⟨⟨_, o_13, rfl, e3.symm, by rw [ht]; exact hP, hD⟩, hS.F ht⟩) hS.2.2 d_Heap_movedList_92
      · replace hm := if_t c_16 hm
        refine lv_ldc (v := (-2147483648)) hx hb hown (htt _ lk_Heap_71) d_Heap_movedList_45 ?_
        obtain ⟨e1, e2, e4, e5, e6, e3⟩ := re5 hm
        obtain ⟨hP, hD⟩ := x_eqg e1 e2 e4 hP hD
        refine W.widen (k := mc) (n := ms) (show kc_14 ≤ mc by omega) (show ks_15 ≤ ms by omega) ?_
        exact W.iret hx hb hr (fun t9 ht hW => ⟨⟨_, o_13, rfl, e3.symm, by rw [ht]; exact hP, hD⟩, hS.F ht⟩) hS.2.2 d_Heap_movedList_47
  · replace hm := if_f c_3 hm
    refine lv_iload_n hx hb d_Heap_movedList_11 rfl (lv_at hl 0 rfl) ?_
    refine lv_ineg hx hb d_Heap_movedList_12 ?_
    refine lv_iconst (v := 2) hx hb d_Heap_movedList_13 (by decide) ?_
    refine lv_ishl hx hb d_Heap_movedList_14 ?_
    refine lv_iconst (v := 1) hx hb d_Heap_movedList_15 (by decide) ?_
    refine lv_ior hx hb d_Heap_movedList_16 ?_
    obtain ⟨e1, e2, e4, e5, e6, e3⟩ := re5 hm
    obtain ⟨hP, hD⟩ := x_eqg e1 e2 e4 hP hD
    refine W.widen (k := mc) (n := ms) (show 0 ≤ mc by omega) (show 0 ≤ ms by omega) ?_
    exact W.iret hx hb hr (fun t9 ht hW => ⟨⟨_, o, rfl, e3.symm, by rw [ht]; exact hP, hD⟩, hS.F ht⟩) hS.2.2 d_Heap_movedList_17

def m_World_keep (n : Nat) (g : Nat → Nat) (i : Nat → Int32) (a : Nat → Nat → Int32)  : Option ((Nat → Int32) × (Nat → Nat → Int32) × Int32) := ob (m_Names_keep n g i a) (fun i_2 a_3 r_4 => ob (m_Procedures_keep n g i_2 a_3) (fun i_6 a_7 r_8 => ob (m_Turtles_keep n g i_6 a_7) (fun i_10 a_11 r_12 => ob (m_Output_keep n g i_10 a_11) (fun i_14 a_15 r_16 => ob1 (i_14 45 : Int32) (fun x_17 => ob1 (upd i_14 2 x_17 : Nat → Int32) (fun i_18 => ob1 (i_18 8 : Int32) (fun x_19 => ob1 (upd i_18 1 x_19 : Nat → Int32) (fun i_20 => ob1 (upd i_20 3 1 : Nat → Int32) (fun i_21 => some (i_21, a_15, (0 : Int32)))))))))))
set_option maxHeartbeats 4000000 in
set_option maxRecDepth 100000 in
theorem x_World_keep (l : Launch) (dC : Nat → ClassId) (dI : Nat → Nat → Nat) (cI : ClassId) (adK adV adA u o g : Nat → Nat) (sz : Nat) (n : Nat) {i : Nat → Int32} {a : Nat → Nat → Int32}  {i2 : Nat → Int32} {a2 : Nat → Nat → Int32} {r2 : Int32} (hm : m_World_keep n g i a = some (i2, a2, r2)) : Met l y_World_keep w_World_keep ({ frames := 2, cells := 0, slots := 0, locals := 60 } : Room) (va_Pc [.ref ((u 0))] (xE dC dI cI adK adV adA u o g i a sz)) (va_Qv xV (xB dC dI cI u o g i2 a2 (va_A (TW cI u o i a g) sz)) (va_A (TW cI u o i a g) sz)) 0 0 ((va_A (TW cI u o i a g) sz)) := by
  refine Met.ofW (cc := b_World_keep) (maxL := 1) (ret := none) (by decide) rfl ?_
  intro p e s m args below meth c s₁ B hml hv
  obtain ⟨rfl, hsz, hP, hK, hE, hD0⟩ := hv
  have hx := B.exec
  have hb := B.bytes
  have hr := B.returns
  have hts := atoms_spec (ws := w_World_keep) B.pre
  have htt : ∀ w ∈ tw_T, w.before _ s = true := fun w h => hts w (List.mem_cons_of_mem _ h)
  have hown : s.vm.findClass R_World = some m.cls := findClass_of_methodNamed B.named
  have hlocks := B.notSynchronized
  subst hsz
  have hD := hD0.self (sz := s.heap.size)
  generalize hAe : (va_A (TW cI u o i a g) s.heap.size) = A at hD hE ⊢
  have hA : ∀ q : Nat, s.heap.size ≤ q → A q := fun q h => by rw [← hAe]; exact Or.inr h
  have hS : va_S A s.heap s.heap [] := va_S.rf
  have hl := lv_entry ([.ref ((u 0))]) (n := 1) (Nat.le_of_ble_eq_true rfl)
  rw [lg_entry_eq]
  generalize (lg_sl ([.ref ((u 0))]) ++ List.replicate (1 - (lg_sl ([.ref ((u 0))])).length) Slot.unset).toArray = ls at hl ⊢
  have hl : lv_has ls 1 [(0, .ref ((u 0)))] := hl
  rw [m_World_keep] at hm
  refine lv_aload_n hx hb d_World_keep_0 rfl (lv_at hl 0 rfl) ?_
  refine va_get (D := (dC, dI)) (ci := 0) (v := .ref ((u 3))) (C := R_World) (T := F_World) (N := 13) hx hb htt iw_World hown hK hP 0 xo_0 rfl 1 (Nat.le_of_ble_eq_true rfl) (htt _ lk_World_26) (fun _ h9 => h9) xg_0_1 d_World_keep_1 ?_
  obtain ⟨i_2, a_3, r_4, h_1, hm⟩ := ob_some hm
  have hFc := x_free hD hS hA
  refine va_callv (va_runV (As := []) (rest := []) ⟨hx, hb, hml, hown, hts⟩ (x_Names_keep l dC dI cI adK adV adA u o g s.heap.size n h_1) (cwV 0 hts (tw_GV tw_cons cw_Names_keep lk_World_265 in_Names_keep sel_Names_keep ini_Names) rfl rfl rfl ⟨rfl, hd_Names_keep⟩ ⟨Nat.le_of_ble_eq_true rfl, Nat.le_of_ble_eq_true rfl⟩) (xpV hK hP hD hS hE hFc xo_3 rfl) rfl rfl hl.1 rfl (lv_room (Nat.le_of_ble_eq_true rfl)) d_World_keep_4 ⟨Nat.le_of_ble_eq_true rfl, Nat.le_of_ble_eq_true rfl⟩) hS (fun q _ h => hFc q h) hFc (fun u9 t9 H locs ht hvm e9 hB hz1 hk1 hS => ?_)
  obtain ⟨hP, hD⟩ := x_aft hB ht hFc
  clear hFc hk1 hz1 hvm hB ht
  refine lv_aload_n hx hb d_World_keep_7 rfl (lv_at hl 0 rfl) ?_
  refine va_get (D := (dC, dI)) (ci := 0) (v := .ref ((u 4))) (C := R_World) (T := F_World) (N := 13) hx hb htt iw_World hown hK hP 0 xo_0 rfl 2 (Nat.le_of_ble_eq_true rfl) (htt _ lk_World_33) (fun _ h9 => h9) xg_0_2 d_World_keep_8 ?_
  obtain ⟨i_6, a_7, r_8, h_5, hm⟩ := ob_some hm
  have hFc := x_free hD hS hA
  refine va_callv (va_runV (As := []) (rest := []) ⟨hx, hb, hml, hown, hts⟩ (x_Procedures_keep l dC dI cI adK adV adA u o g H.size n h_5) (cwV 0 hts (tw_GV tw_cons cw_Procedures_keep lk_World_266 in_Procedures_keep sel_Procedures_keep ini_Procedures) rfl rfl rfl ⟨rfl, hd_Procedures_keep⟩ ⟨Nat.le_of_ble_eq_true rfl, Nat.le_of_ble_eq_true rfl⟩) (xpV hK hP hD hS hE hFc xo_4 rfl) rfl rfl hl.1 rfl (lv_room (Nat.le_of_ble_eq_true rfl)) d_World_keep_11 ⟨Nat.le_of_ble_eq_true rfl, Nat.le_of_ble_eq_true rfl⟩) hS (fun q _ h => hFc q h) hFc (fun u9 t9 H locs ht hvm e9 hB hz1 hk1 hS => ?_)
  obtain ⟨hP, hD⟩ := x_aft hB ht hFc
  clear hFc hk1 hz1 hvm hB ht
  refine lv_aload_n hx hb d_World_keep_14 rfl (lv_at hl 0 rfl) ?_
  refine va_get (D := (dC, dI)) (ci := 0) (v := .ref ((u 5))) (C := R_World) (T := F_World) (N := 13) hx hb htt iw_World hown hK hP 0 xo_0 rfl 3 (Nat.le_of_ble_eq_true rfl) (htt _ lk_World_40) (fun _ h9 => h9) xg_0_3 d_World_keep_15 ?_
  obtain ⟨i_10, a_11, r_12, h_9, hm⟩ := ob_some hm
  have hFc := x_free hD hS hA
  refine va_callv (va_runV (As := []) (rest := []) ⟨hx, hb, hml, hown, hts⟩ (x_Turtles_keep l dC dI cI adK adV adA u o g H.size n h_9) (cwV 0 hts (tw_GV tw_cons cw_Turtles_keep lk_World_267 in_Turtles_keep sel_Turtles_keep ini_Turtles) rfl rfl rfl ⟨rfl, hd_Turtles_keep⟩ ⟨Nat.le_of_ble_eq_true rfl, Nat.le_of_ble_eq_true rfl⟩) (xpV hK hP hD hS hE hFc xo_5 rfl) rfl rfl hl.1 rfl (lv_room (Nat.le_of_ble_eq_true rfl)) d_World_keep_18 ⟨Nat.le_of_ble_eq_true rfl, Nat.le_of_ble_eq_true rfl⟩) hS (fun q _ h => hFc q h) hFc (fun u9 t9 H locs ht hvm e9 hB hz1 hk1 hS => ?_)
  obtain ⟨hP, hD⟩ := x_aft hB ht hFc
  clear hFc hk1 hz1 hvm hB ht
  refine lv_aload_n hx hb d_World_keep_21 rfl (lv_at hl 0 rfl) ?_
  refine va_get (D := (dC, dI)) (ci := 0) (v := .ref ((u 6))) (C := R_World) (T := F_World) (N := 13) hx hb htt iw_World hown hK hP 0 xo_0 rfl 4 (Nat.le_of_ble_eq_true rfl) (htt _ lk_World_47) (fun _ h9 => h9) xg_0_4 d_World_keep_22 ?_
  obtain ⟨i_14, a_15, r_16, h_13, hm⟩ := ob_some hm
  have hFc := x_free hD hS hA
  refine va_callv (va_runV (As := []) (rest := []) ⟨hx, hb, hml, hown, hts⟩ (x_Output_keep l dC dI cI adK adV adA u o g H.size n h_13) (cwV 0 hts (tw_GV tw_cons cw_Output_keep lk_World_268 in_Output_keep sel_Output_keep ini_Output) rfl rfl rfl ⟨rfl, hd_Output_keep⟩ ⟨Nat.le_of_ble_eq_true rfl, Nat.le_of_ble_eq_true rfl⟩) (xpV hK hP hD hS hE hFc xo_6 rfl) rfl rfl hl.1 rfl (lv_room (Nat.le_of_ble_eq_true rfl)) d_World_keep_25 ⟨Nat.le_of_ble_eq_true rfl, Nat.le_of_ble_eq_true rfl⟩) hS (fun q _ h => hFc q h) hFc (fun u9 t9 H locs ht hvm e9 hB hz1 hk1 hS => ?_)
  obtain ⟨hP, hD⟩ := x_aft hB ht hFc
  clear hFc hk1 hz1 hvm hB ht
  refine lv_aload_n hx hb d_World_keep_28 rfl (lv_at hl 0 rfl) ?_
  refine lv_aload_n hx hb d_World_keep_29 rfl (lv_at hl 0 rfl) ?_
  refine va_get (D := (dC, dI)) (ci := 0) (v := .ref ((u 10))) (C := R_World) (T := F_World) (N := 13) hx hb htt iw_World hown hK hP 0 xo_0 rfl 7 (Nat.le_of_ble_eq_true rfl) (htt _ lk_World_75) (fun _ h9 => h9) xg_0_7 d_World_keep_30 ?_
  refine va_get (D := (dC, dI)) (ci := 10) (v := .int (i_14 45)) (C := R_Deeds) (T := F_Deeds) (N := 8) hx hb htt iw_Deeds hown hK hP 10 xo_10 rfl 7 (Nat.le_of_ble_eq_true rfl) (htt _ lk_World_180) (fun _ h9 => h9) xg_10_7 d_World_keep_33 ?_
  refine lv_topi (fun x_17 ex_17 => ?_)
  replace hm := ob1_at ex_17 hm
  refine va_put (D := (dC, dI)) (ci := 0) (v := .int x_17) (ty := .int) (C := R_World) (T := F_World) (N := 13) hx hb htt iw_World t_World t_World_ok n_World hown hK hP hD hS 0 xo_0 rfl 11 (Nat.le_of_ble_eq_true rfl) (htt _ lk_World_269) (fun _ h9 => h9) rfl (by decide +kernel) rfl rfl xl_0_11 d_World_keep_36 (fun H locs hP hD hS => ?_)
  obtain ⟨i_18, ei_18⟩ : ∃ y9 : Nat → Int32, y9 = upd i_14 2 x_17 := ⟨_, rfl⟩
  replace hm := ob1_at ei_18 hm
  obtain ⟨hP, hD⟩ := xw_2 ei_18 hP hD
  refine lv_aload_n hx hb d_World_keep_39 rfl (lv_at hl 0 rfl) ?_
  refine lv_aload_n hx hb d_World_keep_40 rfl (lv_at hl 0 rfl) ?_
  refine va_get (D := (dC, dI)) (ci := 0) (v := .ref ((u 1))) (C := R_World) (T := F_World) (N := 13) hx hb htt iw_World hown hK hP 0 xo_0 rfl 0 (Nat.le_of_ble_eq_true rfl) (htt _ lk_World_17) (fun _ h9 => h9) xg_0_0 d_World_keep_41 ?_
  refine va_get (D := (dC, dI)) (ci := 1) (v := .int (i_18 8)) (C := R_Heap) (T := F_Heap) (N := 12) hx hb htt iw_Heap hown hK hP 1 xo_1 rfl 7 (Nat.le_of_ble_eq_true rfl) (htt _ lk_World_272) (fun _ h9 => h9) xg_1_7 d_World_keep_44 ?_
  refine lv_topi (fun x_19 ex_19 => ?_)
  replace hm := ob1_at ex_19 hm
  refine va_put (D := (dC, dI)) (ci := 0) (v := .int x_19) (ty := .int) (C := R_World) (T := F_World) (N := 13) hx hb htt iw_World t_World t_World_ok n_World hown hK hP hD hS 0 xo_0 rfl 10 (Nat.le_of_ble_eq_true rfl) (htt _ lk_World_275) (fun _ h9 => h9) rfl (by decide +kernel) rfl rfl xl_0_10 d_World_keep_47 (fun H locs hP hD hS => ?_)
  obtain ⟨i_20, ei_20⟩ : ∃ y9 : Nat → Int32, y9 = upd i_18 1 x_19 := ⟨_, rfl⟩
  replace hm := ob1_at ei_20 hm
  obtain ⟨hP, hD⟩ := xw_1 ei_20 hP hD
  refine lv_aload_n hx hb d_World_keep_50 rfl (lv_at hl 0 rfl) ?_
  refine lv_iconst (v := 1) hx hb d_World_keep_51 (by decide) ?_
  refine va_put (D := (dC, dI)) (ci := 0) (v := .int 1) (ty := .boolean) (C := R_World) (T := F_World) (N := 13) hx hb htt iw_World t_World t_World_ok n_World hown hK hP hD hS 0 xo_0 rfl 12 (Nat.le_of_ble_eq_true rfl) (htt _ lk_World_115) (fun _ h9 => h9) rfl (by decide +kernel) (by decide) rfl xl_0_12 d_World_keep_52 (fun H locs hP hD hS => ?_)
  obtain ⟨i_21, ei_21⟩ : ∃ y9 : Nat → Int32, y9 = upd i_20 3 1 := ⟨_, rfl⟩
  replace hm := ob1_at ei_21 hm
  obtain ⟨hP, hD⟩ := xw_3 ei_21 hP hD
  obtain ⟨e1i, e1a, e3⟩ := re3 hm
  obtain ⟨hP, hD⟩ := x_eq e1i e1a hP hD
  exact W.vret hx hb hr (fun t9 ht hW => ⟨⟨(), rfl, trivial, by rw [ht]; exact hP, hD⟩, hS.F ht⟩) hS.2.2 d_World_keep_55

def m_Heap_member (n : Nat) (g : Nat → Nat) (i : Nat → Int32) (a : Nat → Nat → Int32) (v1 : Int32) (v2 : Int32) : Option (Int32) := ob1 (((v1 >>> ((2 : Int32) &&& 31)) + 1) + v2 : Int32) (fun x_1 => if v2 < ((0 : Int32)) then some ((-2147483648)) else ob0 (m_Heap_count n g i a v1) (fun r_4 => if r_4 ≤ v2 then some ((-2147483648)) else if ((nI (g 0))) ≤ x_1 then some ((-2147483648)) else ck x_1 (g 0) (some (a 0 x_1.toNatClampNeg))))
set_option maxHeartbeats 4000000 in
set_option maxRecDepth 100000 in
theorem x_Heap_member (l : Launch) (dC : Nat → ClassId) (dI : Nat → Nat → Nat) (cI : ClassId) (adK adV adA u o g : Nat → Nat) (sz : Nat) (n : Nat) {i : Nat → Int32} {a : Nat → Nat → Int32} {v1 : Int32} {v2 : Int32} {r2 : Int32} (hm : m_Heap_member n g i a v1 v2 = some r2) : Met l y_Heap_member w_Heap_member ({ frames := 1, cells := 0, slots := 0, locals := 22 } : Room) (va_Pc [.ref ((u 1)), .int v1, .int v2] (xEr dC dI cI adK adV adA u o g i a sz)) (va_Qi (xR r2) xT (xN sz)) 0 0 (xN sz) := by
  refine Met.ofW (cc := b_Heap_member) (maxL := 4) (ret := (some .int)) (by decide) rfl ?_
  intro p e s m args below meth c s₁ B hml hv
  obtain ⟨rfl, hsz, hP, hK, hE⟩ := hv
  have hx := B.exec
  have hb := B.bytes
  have hr := B.returns
  have hts := atoms_spec (ws := w_Heap_member) B.pre
  have htt : ∀ w ∈ tw_T, w.before _ s = true := fun w h => hts w (List.mem_cons_of_mem _ h)
  have hown : s.vm.findClass R_Heap = some m.cls := findClass_of_methodNamed B.named
  have hlocks := B.notSynchronized
  subst hsz
  generalize hAe : xN s.heap.size = A at hE ⊢
  have hA : ∀ q : Nat, s.heap.size ≤ q → A q := fun q h => by rw [← hAe]; exact Or.inr h
  have hS : va_S A s.heap s.heap [] := va_S.rf
  have hl := lv_entry ([.ref ((u 1)), .int v1, .int v2]) (n := 4) (Nat.le_of_ble_eq_true rfl)
  rw [lg_entry_eq]
  generalize (lg_sl ([.ref ((u 1)), .int v1, .int v2]) ++ List.replicate (4 - (lg_sl ([.ref ((u 1)), .int v1, .int v2])).length) Slot.unset).toArray = ls at hl ⊢
  have hl : lv_has ls 4 [(0, .ref ((u 1))), (1, .int v1), (2, .int v2)] := hl
  rw [m_Heap_member] at hm
  refine lv_iload_n hx hb d_Heap_member_0 rfl (lv_at hl 1 rfl) ?_
  refine lv_iconst (v := 2) hx hb d_Heap_member_1 (by decide) ?_
  refine lv_ishr hx hb d_Heap_member_2 ?_
  refine lv_iconst (v := 1) hx hb d_Heap_member_3 (by decide) ?_
  refine lv_iadd hx hb d_Heap_member_4 ?_
  refine lv_iload_n hx hb d_Heap_member_5 rfl (lv_at hl 2 rfl) ?_
  refine lv_iadd hx hb d_Heap_member_6 ?_
  refine lv_topi (fun x_1 ex_1 => ?_)
  replace hm := ob1_at ex_1 hm
  refine lv_istore_n (lv' := [(3, .int x_1), (0, .ref ((u 1))), (1, .int v1), (2, .int v2)]) hx hb d_Heap_member_7 rfl hl (by decide) rfl (fun ls hl => ?_)
  refine lv_iload_n hx hb d_Heap_member_8 rfl (lv_at hl 3 rfl) ?_
  refine lv_if_lt (tgt := 39) hx hb d_Heap_member_9 (by decide) (fun c_2 => ?_) (fun c_2 => ?_)
  · replace hm := if_t c_2 hm
    refine lv_ldc (v := (-2147483648)) hx hb hown (htt _ lk_Heap_71) d_Heap_member_39 ?_
    have e3 := re1 hm
    exact W.iret hx hb hr (fun t9 ht hW => ⟨⟨_, (), rfl, e3.symm, trivial⟩, hS.F ht⟩) hS.2.2 d_Heap_member_41
  · replace hm := if_f c_2 hm
    refine lv_iload_n hx hb d_Heap_member_12 rfl (lv_at hl 3 rfl) ?_
    refine lv_aload_n hx hb d_Heap_member_13 rfl (lv_at hl 1 rfl) ?_
    refine lv_iload_n hx hb d_Heap_member_14 rfl (lv_at hl 2 rfl) ?_
    obtain ⟨r_4, h_3, hm⟩ := ob0_some hm
    have hFc := x_free0 hS hA
    refine va_calli (va_runV (As := [.int v1]) (rest := [.int v2]) ⟨hx, hb, hml, hown, hts⟩ (x_Heap_count l dC dI cI adK adV adA u o g s.heap.size n h_3) (cwV 1 hts (tw_GV tw_cons cw_Heap_count lk_Heap_125 in_Heap_count sel_Heap_count ini_Heap) rfl rfl rfl ⟨rfl, hd_Heap_count⟩ ⟨Nat.le_of_ble_eq_true rfl, Nat.le_of_ble_eq_true rfl⟩) (xpVr hK hP hS hE hFc xo_1 rfl) rfl rfl hl.1 rfl (lv_room (Nat.le_of_ble_eq_true rfl)) d_Heap_member_15 ⟨Nat.le_of_ble_eq_true rfl, Nat.le_of_ble_eq_true rfl⟩) hS (fun q _ h => hFc q h) hFc (fun r9 u9 t9 H locs ht hvm e9 hB hz1 hk1 hS => ?_)
    have e9 : r_4 = r9 := e9
    subst e9
    replace hP := x_keep hP hk1
    clear hFc hk1 hz1 hvm hB ht
    refine lv_icmp_ge (tgt := 39) hx hb d_Heap_member_18 (by decide) (fun c_5 => ?_) (fun c_5 => ?_)
    · replace hm := if_t c_5 hm
      refine lv_ldc (v := (-2147483648)) hx hb hown (htt _ lk_Heap_71) d_Heap_member_39 ?_
      have e3 := re1 hm
      exact W.iret hx hb hr (fun t9 ht hW => ⟨⟨_, (), rfl, e3.symm, trivial⟩, hS.F ht⟩) hS.2.2 d_Heap_member_41
    · replace hm := if_f c_5 hm
      refine lv_iload_n hx hb d_Heap_member_21 rfl (lv_at hl 0 rfl) ?_
      refine lv_aload_n hx hb d_Heap_member_22 rfl (lv_at hl 1 rfl) ?_
      refine va_get (D := (dC, dI)) (ci := 1) (v := .ref ((o 0))) (C := R_Heap) (T := F_Heap) (N := 12) hx hb htt iw_Heap hown hK hP 1 xo_1 rfl 5 (Nat.le_of_ble_eq_true rfl) (htt _ lk_Heap_11) (fun _ h9 => h9) xg_1_5 d_Heap_member_23 ?_
      refine va_alen (v := nI (g 0)) hx hb hK hP 12 0 twA_0 rfl rfl d_Heap_member_26 ?_
      refine lv_icmp_ge (tgt := 39) hx hb d_Heap_member_27 (by decide) (fun c_6 => ?_) (fun c_6 => ?_)
      · replace hm := if_t c_6 hm
        refine lv_ldc (v := (-2147483648)) hx hb hown (htt _ lk_Heap_71) d_Heap_member_39 ?_
        have e3 := re1 hm
        exact W.iret hx hb hr (fun t9 ht hW => ⟨⟨_, (), rfl, e3.symm, trivial⟩, hS.F ht⟩) hS.2.2 d_Heap_member_41
      · replace hm := if_f c_6 hm
        refine lv_aload_n hx hb d_Heap_member_30 rfl (lv_at hl 1 rfl) ?_
        refine va_get (D := (dC, dI)) (ci := 1) (v := .ref ((o 0))) (C := R_Heap) (T := F_Heap) (N := 12) hx hb htt iw_Heap hown hK hP 1 xo_1 rfl 5 (Nat.le_of_ble_eq_true rfl) (htt _ lk_Heap_11) (fun _ h9 => h9) xg_1_5 d_Heap_member_31 ?_
        refine lv_iload_n hx hb d_Heap_member_34 rfl (lv_at hl 0 rfl) ?_
        obtain ⟨h_7, hm⟩ := ck_some hm
        refine va_iald hx hb hK hP 12 0 twA_0 rfl h_7 d_Heap_member_35 ?_
        refine lv_goto (tgt := 41) hx hb d_Heap_member_36 (by decide) ?_
        have e3 := re1 hm
        exact W.iret hx hb hr (fun t9 ht hW => ⟨⟨_, (), rfl, e3.symm, trivial⟩, hS.F ht⟩) hS.2.2 d_Heap_member_41

def m_Names_findLocal_b7 (n : Nat) (g : Nat → Nat) (i : Nat → Int32) (a : Nat → Nat → Int32) : Nat → Int32 → Int32 → Int32 → Option (Int32)
  | 0, _, _, _ => none
  | f + 1, v1, v2, v3 => if v3 < v2 then some ((-1)) else if v3 < ((0 : Int32)) then some ((-1)) else ck v3 1800 (ob0 (m_Heap_sameWord n g i a (a 12 v3.toNatClampNeg) v1) (fun r_5 => if r_5 = ((0 : Int32)) then ob1 (v3 + (-1) : Int32) (fun x_7 => m_Names_findLocal_b7 n g i a f v1 v2 x_7) else some v3))
set_option maxHeartbeats 4000000 in
set_option maxRecDepth 100000 in
theorem lb_Names_findLocal_7 (l : Launch) (dC : Nat → ClassId) (dI : Nat → Nat → Nat) (cI : ClassId) (adK adV adA u o g : Nat → Nat) (n : Nat) {p : Program} {e : Env} {s : State} {m : MethodId} {args : Array Value} {below : List Frame} {meth : Method} {c : Code} {A : Nat → Prop} (hx : p.tables.exec = Jvm.exec) (hb : c.code = b_Names_findLocal) (hml : c.maxLocals = 4) (hown : s.vm.findClass R_Names = some m.cls) (hts : ∀ w ∈ w_Names_findLocal, w.before args s = true) (hK : va_K (dC, dI) classes [(cI, .int)] s) (hE : tw_E adK adV adA A s s.heap) (hA : ∀ q : Nat, s.heap.size ≤ q → A q) (hr : meth.sig.returnType = (some .int)) (hlocks : meth.locks = false) {i : Nat → Int32} {a : Nat → Nat → Int32} {r2 : Int32} : ∀ (f : Nat) (v1 : Int32) (v2 : Int32) (v3 : Int32), m_Names_findLocal_b7 n g i a f v1 v2 v3 = some r2 → ∀ (H : Heap) (locs : List Loc) (ls : Array Slot), va_P (dC, dI) classes (TW cI u o i a g) H → va_S A s.heap H locs → lv_has ls 4 [(0, .ref ((u 3))), (1, .int v1), (2, .int v2), (3, .int v3)] → W p l e ({ frames := 1, cells := 0, slots := 0, locals := 26 } : Room) s m args below meth c H locs 0 0 (MQ below (va_Qi (xR r2) xT A) args s 0 0 A) (F0 m 7 ls []) := by
  have htt : ∀ w ∈ tw_T, w.before _ s = true := fun w h => hts w (List.mem_cons_of_mem _ h)
  intro f
  induction f with
  | zero =>
    intro v1 v2 v3 hm
    rw [m_Names_findLocal_b7] at hm
    cases hm
  | succ f ih =>
    intro v1 v2 v3 hm H locs ls hP hS hl
    rw [m_Names_findLocal_b7] at hm
    refine lv_iload_n hx hb d_Names_findLocal_7 rfl (lv_at hl 3 rfl) ?_
    refine lv_iload_n hx hb d_Names_findLocal_8 rfl (lv_at hl 2 rfl) ?_
    refine lv_icmp_lt (tgt := 41) hx hb d_Names_findLocal_9 (by decide) (fun c_1 => ?_) (fun c_1 => ?_)
    · replace hm := if_t c_1 hm
      refine lv_iconst (v := -1) hx hb d_Names_findLocal_41 (by decide) ?_
      have e3 := re1 hm
      exact W.iret hx hb hr (fun t9 ht hW => ⟨⟨_, (), rfl, e3.symm, trivial⟩, hS.F ht⟩) hS.2.2 d_Names_findLocal_42
    · replace hm := if_f c_1 hm
      refine lv_iload_n hx hb d_Names_findLocal_12 rfl (lv_at hl 3 rfl) ?_
      refine lv_if_lt (tgt := 41) hx hb d_Names_findLocal_13 (by decide) (fun c_2 => ?_) (fun c_2 => ?_)
      · replace hm := if_t c_2 hm
        refine lv_iconst (v := -1) hx hb d_Names_findLocal_41 (by decide) ?_
        have e3 := re1 hm
        exact W.iret hx hb hr (fun t9 ht hW => ⟨⟨_, (), rfl, e3.symm, trivial⟩, hS.F ht⟩) hS.2.2 d_Names_findLocal_42
      · replace hm := if_f c_2 hm
        refine lv_aload_n hx hb d_Names_findLocal_16 rfl (lv_at hl 0 rfl) ?_
        refine va_get (D := (dC, dI)) (ci := 3) (v := .ref ((u 1))) (C := R_Names) (T := F_Names) (N := 9) hx hb htt iw_Names hown hK hP 3 xo_3 rfl 0 (Nat.le_of_ble_eq_true rfl) (htt _ lk_Names_27) (fun _ h9 => h9) xg_3_0 d_Names_findLocal_17 ?_
        refine lv_aload_n hx hb d_Names_findLocal_20 rfl (lv_at hl 0 rfl) ?_
        refine va_get (D := (dC, dI)) (ci := 3) (v := .ref ((u 22))) (C := R_Names) (T := F_Names) (N := 9) hx hb htt iw_Names hown hK hP 3 xo_3 rfl 4 (Nat.le_of_ble_eq_true rfl) (htt _ lk_Names_18) (fun _ h9 => h9) xg_3_4 d_Names_findLocal_21 ?_
        refine lv_iload_n hx hb d_Names_findLocal_24 rfl (lv_at hl 3 rfl) ?_
        obtain ⟨h_3, hm⟩ := ck_some hm
        refine va_iald hx hb hK hP 24 0 twA_12 rfl h_3 d_Names_findLocal_25 ?_
        refine lv_iload_n hx hb d_Names_findLocal_26 rfl (lv_at hl 1 rfl) ?_
        obtain ⟨r_5, h_4, hm⟩ := ob0_some hm
        have hFc := x_free0 hS hA
        refine va_calli (va_runV (As := [.int (a 12 v3.toNatClampNeg), .int v1]) (rest := []) ⟨hx, hb, hml, hown, hts⟩ (x_Heap_sameWord l dC dI cI adK adV adA u o g H.size n h_4) (cwV 2 hts (tw_GV tw_cons cw_Heap_sameWord lk_Names_35 in_Heap_sameWord sel_Heap_sameWord ini_Heap) rfl rfl rfl ⟨rfl, hd_Heap_sameWord⟩ ⟨Nat.le_of_ble_eq_true rfl, Nat.le_of_ble_eq_true rfl⟩) (xpVr hK hP hS hE hFc xo_1 rfl) rfl rfl hl.1 rfl (lv_room (Nat.le_of_ble_eq_true rfl)) d_Names_findLocal_27 ⟨Nat.le_of_ble_eq_true rfl, Nat.le_of_ble_eq_true rfl⟩) hS (fun q _ h => hFc q h) hFc (fun r9 u9 t9 H locs ht hvm e9 hB hz1 hk1 hS => ?_)
        have e9 : r_5 = r9 := e9
        subst e9
        replace hP := x_keep hP hk1
        clear hFc hk1 hz1 hvm hB ht
        refine lv_if_eq (tgt := 35) hx hb d_Names_findLocal_30 (by decide) (fun c_6 => ?_) (fun c_6 => ?_)
        · replace hm := if_t c_6 hm
          obtain ⟨x_7, ex_7⟩ : ∃ y9 : Int32, y9 = v3 + (-1) := ⟨_, rfl⟩
          replace hm := ob1_at ex_7 hm
          refine lv_iinc (v := x_7) (lv' := [(3, .int x_7), (0, .ref ((u 3))), (1, .int v1), (2, .int v2)]) hx hb d_Names_findLocal_35 hl (k := 3) rfl (by rw [ex_7]; rfl) (by decide) rfl (fun ls hl => ?_)
          refine lv_goto (tgt := 7) hx hb d_Names_findLocal_38 (by decide) ?_
          exact ih _ _ _ hm _ _ _ hP hS (lv_sub hl [1, 2, 3, 0] rfl)
        · replace hm := if_f c_6 hm
          refine lv_iload_n hx hb d_Names_findLocal_33 rfl (lv_at hl 3 rfl) ?_
          have e3 := re1 hm
          exact W.iret hx hb hr (fun t9 ht hW => ⟨⟨_, (), rfl, e3.symm, trivial⟩, hS.F ht⟩) hS.2.2 d_Names_findLocal_34
def m_Names_findLocal (n : Nat) (g : Nat → Nat) (i : Nat → Int32) (a : Nat → Nat → Int32) (v1 : Int32) (v2 : Int32) : Option (Int32) := ob1 ((i 13) - 1 : Int32) (fun x_1 => m_Names_findLocal_b7 n g i a n v1 v2 x_1)
set_option maxHeartbeats 4000000 in
set_option maxRecDepth 100000 in
theorem x_Names_findLocal (l : Launch) (dC : Nat → ClassId) (dI : Nat → Nat → Nat) (cI : ClassId) (adK adV adA u o g : Nat → Nat) (sz : Nat) (n : Nat) {i : Nat → Int32} {a : Nat → Nat → Int32} {v1 : Int32} {v2 : Int32} {r2 : Int32} (hm : m_Names_findLocal n g i a v1 v2 = some r2) : Met l y_Names_findLocal w_Names_findLocal ({ frames := 1, cells := 0, slots := 0, locals := 26 } : Room) (va_Pc [.ref ((u 3)), .int v1, .int v2] (xEr dC dI cI adK adV adA u o g i a sz)) (va_Qi (xR r2) xT (xN sz)) 0 0 (xN sz) := by
  refine Met.ofW (cc := b_Names_findLocal) (maxL := 4) (ret := (some .int)) (by decide) rfl ?_
  intro p e s m args below meth c s₁ B hml hv
  obtain ⟨rfl, hsz, hP, hK, hE⟩ := hv
  have hx := B.exec
  have hb := B.bytes
  have hr := B.returns
  have hts := atoms_spec (ws := w_Names_findLocal) B.pre
  have htt : ∀ w ∈ tw_T, w.before _ s = true := fun w h => hts w (List.mem_cons_of_mem _ h)
  have hown : s.vm.findClass R_Names = some m.cls := findClass_of_methodNamed B.named
  have hlocks := B.notSynchronized
  subst hsz
  generalize hAe : xN s.heap.size = A at hE ⊢
  have hA : ∀ q : Nat, s.heap.size ≤ q → A q := fun q h => by rw [← hAe]; exact Or.inr h
  have hS : va_S A s.heap s.heap [] := va_S.rf
  have hl := lv_entry ([.ref ((u 3)), .int v1, .int v2]) (n := 4) (Nat.le_of_ble_eq_true rfl)
  rw [lg_entry_eq]
  generalize (lg_sl ([.ref ((u 3)), .int v1, .int v2]) ++ List.replicate (4 - (lg_sl ([.ref ((u 3)), .int v1, .int v2])).length) Slot.unset).toArray = ls at hl ⊢
  have hl : lv_has ls 4 [(0, .ref ((u 3))), (1, .int v1), (2, .int v2)] := hl
  rw [m_Names_findLocal] at hm
  refine lv_aload_n hx hb d_Names_findLocal_0 rfl (lv_at hl 0 rfl) ?_
  refine va_get (D := (dC, dI)) (ci := 3) (v := .int (i 13)) (C := R_Names) (T := F_Names) (N := 9) hx hb htt iw_Names hown hK hP 3 xo_3 rfl 6 (Nat.le_of_ble_eq_true rfl) (htt _ lk_Names_31) (fun _ h9 => h9) xg_3_6 d_Names_findLocal_1 ?_
  refine lv_iconst (v := 1) hx hb d_Names_findLocal_4 (by decide) ?_
  refine lv_isub hx hb d_Names_findLocal_5 ?_
  refine lv_topi (fun x_1 ex_1 => ?_)
  replace hm := ob1_at ex_1 hm
  refine lv_istore_n (lv' := [(3, .int x_1), (0, .ref ((u 3))), (1, .int v1), (2, .int v2)]) hx hb d_Names_findLocal_6 rfl hl (by decide) rfl (fun ls hl => ?_)
  exact lb_Names_findLocal_7 l dC dI cI adK adV adA u o g n hx hb hml hown hts hK hE hA hr hlocks n _ _ _ hm _ _ _ hP hS (lv_sub hl [1, 2, 3, 0] rfl)

def m_Names_findGlobal_b2 (n : Nat) (g : Nat → Nat) (i : Nat → Int32) (a : Nat → Nat → Int32) : Nat → Int32 → Int32 → Option (Int32)
  | 0, _, _ => none
  | f + 1, v1, v2 => if ((i 12)) ≤ v2 then some ((-1)) else ck v2 64 (ob0 (m_Heap_sameWord n g i a (a 10 v2.toNatClampNeg) v1) (fun r_4 => if r_4 = ((0 : Int32)) then ob1 (v2 + 1 : Int32) (fun x_6 => m_Names_findGlobal_b2 n g i a f v1 x_6) else some v2))
set_option maxHeartbeats 4000000 in
set_option maxRecDepth 100000 in
theorem lb_Names_findGlobal_2 (l : Launch) (dC : Nat → ClassId) (dI : Nat → Nat → Nat) (cI : ClassId) (adK adV adA u o g : Nat → Nat) (n : Nat) {p : Program} {e : Env} {s : State} {m : MethodId} {args : Array Value} {below : List Frame} {meth : Method} {c : Code} {A : Nat → Prop} (hx : p.tables.exec = Jvm.exec) (hb : c.code = b_Names_findGlobal) (hml : c.maxLocals = 3) (hown : s.vm.findClass R_Names = some m.cls) (hts : ∀ w ∈ w_Names_findGlobal, w.before args s = true) (hK : va_K (dC, dI) classes [(cI, .int)] s) (hE : tw_E adK adV adA A s s.heap) (hA : ∀ q : Nat, s.heap.size ≤ q → A q) (hr : meth.sig.returnType = (some .int)) (hlocks : meth.locks = false) {i : Nat → Int32} {a : Nat → Nat → Int32} {r2 : Int32} : ∀ (f : Nat) (v1 : Int32) (v2 : Int32), m_Names_findGlobal_b2 n g i a f v1 v2 = some r2 → ∀ (H : Heap) (locs : List Loc) (ls : Array Slot), va_P (dC, dI) classes (TW cI u o i a g) H → va_S A s.heap H locs → lv_has ls 3 [(0, .ref ((u 3))), (1, .int v1), (2, .int v2)] → W p l e ({ frames := 1, cells := 0, slots := 0, locals := 26 } : Room) s m args below meth c H locs 0 0 (MQ below (va_Qi (xR r2) xT A) args s 0 0 A) (F0 m 2 ls []) := by
  have htt : ∀ w ∈ tw_T, w.before _ s = true := fun w h => hts w (List.mem_cons_of_mem _ h)
  intro f
  induction f with
  | zero =>
    intro v1 v2 hm
    rw [m_Names_findGlobal_b2] at hm
    cases hm
  | succ f ih =>
    intro v1 v2 hm H locs ls hP hS hl
    rw [m_Names_findGlobal_b2] at hm
    refine lv_iload_n hx hb d_Names_findGlobal_2 rfl (lv_at hl 2 rfl) ?_
    refine lv_aload_n hx hb d_Names_findGlobal_3 rfl (lv_at hl 0 rfl) ?_
    refine va_get (D := (dC, dI)) (ci := 3) (v := .int (i 12)) (C := R_Names) (T := F_Names) (N := 9) hx hb htt iw_Names hown hK hP 3 xo_3 rfl 3 (Nat.le_of_ble_eq_true rfl) (htt _ lk_Names_41) (fun _ h9 => h9) xg_3_3 d_Names_findGlobal_4 ?_
    refine lv_icmp_ge (tgt := 35) hx hb d_Names_findGlobal_7 (by decide) (fun c_1 => ?_) (fun c_1 => ?_)
    · replace hm := if_t c_1 hm
      refine lv_iconst (v := -1) hx hb d_Names_findGlobal_35 (by decide) ?_
      have e3 := re1 hm
      exact W.iret hx hb hr (fun t9 ht hW => ⟨⟨_, (), rfl, e3.symm, trivial⟩, hS.F ht⟩) hS.2.2 d_Names_findGlobal_36
    · replace hm := if_f c_1 hm
      refine lv_aload_n hx hb d_Names_findGlobal_10 rfl (lv_at hl 0 rfl) ?_
      refine va_get (D := (dC, dI)) (ci := 3) (v := .ref ((u 1))) (C := R_Names) (T := F_Names) (N := 9) hx hb htt iw_Names hown hK hP 3 xo_3 rfl 0 (Nat.le_of_ble_eq_true rfl) (htt _ lk_Names_27) (fun _ h9 => h9) xg_3_0 d_Names_findGlobal_11 ?_
      refine lv_aload_n hx hb d_Names_findGlobal_14 rfl (lv_at hl 0 rfl) ?_
      refine va_get (D := (dC, dI)) (ci := 3) (v := .ref ((u 20))) (C := R_Names) (T := F_Names) (N := 9) hx hb htt iw_Names hown hK hP 3 xo_3 rfl 1 (Nat.le_of_ble_eq_true rfl) (htt _ lk_Names_11) (fun _ h9 => h9) xg_3_1 d_Names_findGlobal_15 ?_
      refine lv_iload_n hx hb d_Names_findGlobal_18 rfl (lv_at hl 2 rfl) ?_
      obtain ⟨h_2, hm⟩ := ck_some hm
      refine va_iald hx hb hK hP 22 0 twA_10 rfl h_2 d_Names_findGlobal_19 ?_
      refine lv_iload_n hx hb d_Names_findGlobal_20 rfl (lv_at hl 1 rfl) ?_
      obtain ⟨r_4, h_3, hm⟩ := ob0_some hm
      have hFc := x_free0 hS hA
      refine va_calli (va_runV (As := [.int (a 10 v2.toNatClampNeg), .int v1]) (rest := []) ⟨hx, hb, hml, hown, hts⟩ (x_Heap_sameWord l dC dI cI adK adV adA u o g H.size n h_3) (cwV 2 hts (tw_GV tw_cons cw_Heap_sameWord lk_Names_35 in_Heap_sameWord sel_Heap_sameWord ini_Heap) rfl rfl rfl ⟨rfl, hd_Heap_sameWord⟩ ⟨Nat.le_of_ble_eq_true rfl, Nat.le_of_ble_eq_true rfl⟩) (xpVr hK hP hS hE hFc xo_1 rfl) rfl rfl hl.1 rfl (lv_room (Nat.le_of_ble_eq_true rfl)) d_Names_findGlobal_21 ⟨Nat.le_of_ble_eq_true rfl, Nat.le_of_ble_eq_true rfl⟩) hS (fun q _ h => hFc q h) hFc (fun r9 u9 t9 H locs ht hvm e9 hB hz1 hk1 hS => ?_)
      have e9 : r_4 = r9 := e9
      subst e9
      replace hP := x_keep hP hk1
      clear hFc hk1 hz1 hvm hB ht
      refine lv_if_eq (tgt := 29) hx hb d_Names_findGlobal_24 (by decide) (fun c_5 => ?_) (fun c_5 => ?_)
      · replace hm := if_t c_5 hm
        obtain ⟨x_6, ex_6⟩ : ∃ y9 : Int32, y9 = v2 + 1 := ⟨_, rfl⟩
        replace hm := ob1_at ex_6 hm
        refine lv_iinc (v := x_6) (lv' := [(2, .int x_6), (0, .ref ((u 3))), (1, .int v1)]) hx hb d_Names_findGlobal_29 hl (k := 2) rfl (by rw [ex_6]; rfl) (by decide) rfl (fun ls hl => ?_)
        refine lv_goto (tgt := 2) hx hb d_Names_findGlobal_32 (by decide) ?_
        exact ih _ _ hm _ _ _ hP hS (lv_sub hl [1, 2, 0] rfl)
      · replace hm := if_f c_5 hm
        refine lv_iload_n hx hb d_Names_findGlobal_27 rfl (lv_at hl 2 rfl) ?_
        have e3 := re1 hm
        exact W.iret hx hb hr (fun t9 ht hW => ⟨⟨_, (), rfl, e3.symm, trivial⟩, hS.F ht⟩) hS.2.2 d_Names_findGlobal_28
def m_Names_findGlobal (n : Nat) (g : Nat → Nat) (i : Nat → Int32) (a : Nat → Nat → Int32) (v1 : Int32) : Option (Int32) := m_Names_findGlobal_b2 n g i a n v1 (0 : Int32)
set_option maxHeartbeats 4000000 in
set_option maxRecDepth 100000 in
theorem x_Names_findGlobal (l : Launch) (dC : Nat → ClassId) (dI : Nat → Nat → Nat) (cI : ClassId) (adK adV adA u o g : Nat → Nat) (sz : Nat) (n : Nat) {i : Nat → Int32} {a : Nat → Nat → Int32} {v1 : Int32} {r2 : Int32} (hm : m_Names_findGlobal n g i a v1 = some r2) : Met l y_Names_findGlobal w_Names_findGlobal ({ frames := 1, cells := 0, slots := 0, locals := 26 } : Room) (va_Pc [.ref ((u 3)), .int v1] (xEr dC dI cI adK adV adA u o g i a sz)) (va_Qi (xR r2) xT (xN sz)) 0 0 (xN sz) := by
  refine Met.ofW (cc := b_Names_findGlobal) (maxL := 3) (ret := (some .int)) (by decide) rfl ?_
  intro p e s m args below meth c s₁ B hml hv
  obtain ⟨rfl, hsz, hP, hK, hE⟩ := hv
  have hx := B.exec
  have hb := B.bytes
  have hr := B.returns
  have hts := atoms_spec (ws := w_Names_findGlobal) B.pre
  have htt : ∀ w ∈ tw_T, w.before _ s = true := fun w h => hts w (List.mem_cons_of_mem _ h)
  have hown : s.vm.findClass R_Names = some m.cls := findClass_of_methodNamed B.named
  have hlocks := B.notSynchronized
  subst hsz
  generalize hAe : xN s.heap.size = A at hE ⊢
  have hA : ∀ q : Nat, s.heap.size ≤ q → A q := fun q h => by rw [← hAe]; exact Or.inr h
  have hS : va_S A s.heap s.heap [] := va_S.rf
  have hl := lv_entry ([.ref ((u 3)), .int v1]) (n := 3) (Nat.le_of_ble_eq_true rfl)
  rw [lg_entry_eq]
  generalize (lg_sl ([.ref ((u 3)), .int v1]) ++ List.replicate (3 - (lg_sl ([.ref ((u 3)), .int v1])).length) Slot.unset).toArray = ls at hl ⊢
  have hl : lv_has ls 3 [(0, .ref ((u 3))), (1, .int v1)] := hl
  rw [m_Names_findGlobal] at hm
  refine lv_iconst (v := 0) hx hb d_Names_findGlobal_0 (by decide) ?_
  refine lv_istore_n (lv' := [(2, .int 0), (0, .ref ((u 3))), (1, .int v1)]) hx hb d_Names_findGlobal_1 rfl hl (by decide) rfl (fun ls hl => ?_)
  exact lb_Names_findGlobal_2 l dC dI cI adK adV adA u o g n hx hb hml hown hts hK hE hA hr hlocks n _ _ hm _ _ _ hP hS (lv_sub hl [1, 2, 0] rfl)

def m_Waiting_meetCall (n : Nat) (g : Nat → Nat) (i : Nat → Int32) (a : Nat → Nat → Int32) (v1 : Int32) (v2 : Int32) (v3 : Int32) (v4 : Int32) : Option ((Nat → Int32) × (Nat → Nat → Int32) × Int32) := if ((400 : Int32)) < ((i 42)) then some (i, a, (0 : Int32)) else ob (m_Waiting_meet n g i a (2 : Int32) v1 v4 (0 : Int32)) (fun i_3 a_4 r_5 => ck ((i_3 42)) 401 (ob1 (sv a_4 52 (i_3 42).toNatClampNeg v2 : Nat → Nat → Int32) (fun a_7 => ck ((i_3 42)) 401 (ob1 (sv a_7 53 (i_3 42).toNatClampNeg v3 : Nat → Nat → Int32) (fun a_9 => some (i_3, a_9, (0 : Int32)))))))
set_option maxHeartbeats 4000000 in
set_option maxRecDepth 100000 in
theorem x_Waiting_meetCall (l : Launch) (dC : Nat → ClassId) (dI : Nat → Nat → Nat) (cI : ClassId) (adK adV adA u o g : Nat → Nat) (sz : Nat) (n : Nat) {i : Nat → Int32} {a : Nat → Nat → Int32} {v1 : Int32} {v2 : Int32} {v3 : Int32} {v4 : Int32} {i2 : Nat → Int32} {a2 : Nat → Nat → Int32} {r2 : Int32} (hm : m_Waiting_meetCall n g i a v1 v2 v3 v4 = some (i2, a2, r2)) : Met l y_Waiting_meetCall w_Waiting_meetCall ({ frames := 1, cells := 0, slots := 0, locals := 24 } : Room) (va_Pc [.ref ((u 9)), .int v1, .int v2, .int v3, .int v4] (xE dC dI cI adK adV adA u o g i a sz)) (va_Qv xV (xB dC dI cI u o g i2 a2 (va_A (TW cI u o i a g) sz)) (va_A (TW cI u o i a g) sz)) 0 0 ((va_A (TW cI u o i a g) sz)) := by
  refine Met.ofW (cc := b_Waiting_meetCall) (maxL := 5) (ret := none) (by decide) rfl ?_
  intro p e s m args below meth c s₁ B hml hv
  obtain ⟨rfl, hsz, hP, hK, hE, hD0⟩ := hv
  have hx := B.exec
  have hb := B.bytes
  have hr := B.returns
  have hts := atoms_spec (ws := w_Waiting_meetCall) B.pre
  have htt : ∀ w ∈ tw_T, w.before _ s = true := fun w h => hts w (List.mem_cons_of_mem _ h)
  have hown : s.vm.findClass R_Waiting = some m.cls := findClass_of_methodNamed B.named
  have hlocks := B.notSynchronized
  subst hsz
  have hD := hD0.self (sz := s.heap.size)
  generalize hAe : (va_A (TW cI u o i a g) s.heap.size) = A at hD hE ⊢
  have hA : ∀ q : Nat, s.heap.size ≤ q → A q := fun q h => by rw [← hAe]; exact Or.inr h
  have hS : va_S A s.heap s.heap [] := va_S.rf
  have hl := lv_entry ([.ref ((u 9)), .int v1, .int v2, .int v3, .int v4]) (n := 5) (Nat.le_of_ble_eq_true rfl)
  rw [lg_entry_eq]
  generalize (lg_sl ([.ref ((u 9)), .int v1, .int v2, .int v3, .int v4]) ++ List.replicate (5 - (lg_sl ([.ref ((u 9)), .int v1, .int v2, .int v3, .int v4])).length) Slot.unset).toArray = ls at hl ⊢
  have hl : lv_has ls 5 [(0, .ref ((u 9))), (1, .int v1), (2, .int v2), (3, .int v3), (4, .int v4)] := hl
  rw [m_Waiting_meetCall] at hm
  refine lv_aload_n hx hb d_Waiting_meetCall_0 rfl (lv_at hl 0 rfl) ?_
  refine va_get (D := (dC, dI)) (ci := 9) (v := .int (i 42)) (C := R_Waiting) (T := F_Waiting) (N := 11) hx hb htt iw_Waiting hown hK hP 9 xo_9 rfl 7 (Nat.le_of_ble_eq_true rfl) (htt _ lk_Waiting_36) (fun _ h9 => h9) xg_9_7 d_Waiting_meetCall_1 ?_
  refine lv_sipush (v := 400) hx hb d_Waiting_meetCall_4 (by decide) ?_
  refine lv_icmp_gt (tgt := 39) hx hb d_Waiting_meetCall_7 (by decide) (fun c_1 => ?_) (fun c_1 => ?_)
  · replace hm := if_t c_1 hm
    obtain ⟨e1i, e1a, e3⟩ := re3 hm
    obtain ⟨hP, hD⟩ := x_eq e1i e1a hP hD
    exact W.vret hx hb hr (fun t9 ht hW => ⟨⟨(), rfl, trivial, by rw [ht]; exact hP, hD⟩, hS.F ht⟩) hS.2.2 d_Waiting_meetCall_39
  · replace hm := if_f c_1 hm
    refine lv_aload_n hx hb d_Waiting_meetCall_10 rfl (lv_at hl 0 rfl) ?_
    refine lv_iconst (v := 2) hx hb d_Waiting_meetCall_11 (by decide) ?_
    refine lv_iload_n hx hb d_Waiting_meetCall_12 rfl (lv_at hl 1 rfl) ?_
    refine lv_iload hx hb d_Waiting_meetCall_13 (lv_at hl 4 rfl) ?_
    refine lv_iconst (v := 0) hx hb d_Waiting_meetCall_15 (by decide) ?_
    obtain ⟨i_3, a_4, r_5, h_2, hm⟩ := ob_some hm
    have hFc := x_free hD hS hA
    refine va_callv (va_runV (As := [.int 2, .int v1, .int v4, .int 0]) (rest := []) ⟨hx, hb, hml, hown, hts⟩ (x_Waiting_meet l dC dI cI adK adV adA u o g s.heap.size n h_2) (cwV 4 hts (tw_GV tw_cons cw_Waiting_meet lk_Waiting_46 in_Waiting_meet sel_Waiting_meet ini_Waiting) rfl rfl rfl ⟨rfl, hd_Waiting_meet⟩ ⟨Nat.le_of_ble_eq_true rfl, Nat.le_of_ble_eq_true rfl⟩) (xpV hK hP hD hS hE hFc xo_9 rfl) rfl rfl hl.1 rfl (lv_room (Nat.le_of_ble_eq_true rfl)) d_Waiting_meetCall_16 ⟨Nat.le_of_ble_eq_true rfl, Nat.le_of_ble_eq_true rfl⟩) hS (fun q _ h => hFc q h) hFc (fun u9 t9 H locs ht hvm e9 hB hz1 hk1 hS => ?_)
    obtain ⟨hP, hD⟩ := x_aft hB ht hFc
    clear hFc hk1 hz1 hvm hB ht
    refine lv_aload_n hx hb d_Waiting_meetCall_19 rfl (lv_at hl 0 rfl) ?_
    refine va_get (D := (dC, dI)) (ci := 9) (v := .ref ((u 62))) (C := R_Waiting) (T := F_Waiting) (N := 11) hx hb htt iw_Waiting hown hK hP 9 xo_9 rfl 5 (Nat.le_of_ble_eq_true rfl) (htt _ lk_Waiting_27) (fun _ h9 => h9) xg_9_5 d_Waiting_meetCall_20 ?_
    refine lv_aload_n hx hb d_Waiting_meetCall_23 rfl (lv_at hl 0 rfl) ?_
    refine va_get (D := (dC, dI)) (ci := 9) (v := .int (i_3 42)) (C := R_Waiting) (T := F_Waiting) (N := 11) hx hb htt iw_Waiting hown hK hP 9 xo_9 rfl 7 (Nat.le_of_ble_eq_true rfl) (htt _ lk_Waiting_36) (fun _ h9 => h9) xg_9_7 d_Waiting_meetCall_24 ?_
    refine lv_iload_n hx hb d_Waiting_meetCall_27 rfl (lv_at hl 2 rfl) ?_
    obtain ⟨h_6, hm⟩ := ck_some hm
    refine va_iast hx hb hK hP hD hS 64 0 twA_52 rfl h_6 d_Waiting_meetCall_28 (fun H locs hP hD hS => ?_)
    obtain ⟨a_7, ea_7⟩ : ∃ y9 : Nat → Nat → Int32, y9 = sv a_4 52 (i_3 42).toNatClampNeg v2 := ⟨_, rfl⟩
    replace hm := ob1_at ea_7 hm
    obtain ⟨hP, hD⟩ := xv_52 ea_7 hP hD
    refine lv_aload_n hx hb d_Waiting_meetCall_29 rfl (lv_at hl 0 rfl) ?_
    refine va_get (D := (dC, dI)) (ci := 9) (v := .ref ((u 63))) (C := R_Waiting) (T := F_Waiting) (N := 11) hx hb htt iw_Waiting hown hK hP 9 xo_9 rfl 6 (Nat.le_of_ble_eq_true rfl) (htt _ lk_Waiting_30) (fun _ h9 => h9) xg_9_6 d_Waiting_meetCall_30 ?_
    refine lv_aload_n hx hb d_Waiting_meetCall_33 rfl (lv_at hl 0 rfl) ?_
    refine va_get (D := (dC, dI)) (ci := 9) (v := .int (i_3 42)) (C := R_Waiting) (T := F_Waiting) (N := 11) hx hb htt iw_Waiting hown hK hP 9 xo_9 rfl 7 (Nat.le_of_ble_eq_true rfl) (htt _ lk_Waiting_36) (fun _ h9 => h9) xg_9_7 d_Waiting_meetCall_34 ?_
    refine lv_iload_n hx hb d_Waiting_meetCall_37 rfl (lv_at hl 3 rfl) ?_
    obtain ⟨h_8, hm⟩ := ck_some hm
    refine va_iast hx hb hK hP hD hS 65 0 twA_53 rfl h_8 d_Waiting_meetCall_38 (fun H locs hP hD hS => ?_)
    obtain ⟨a_9, ea_9⟩ : ∃ y9 : Nat → Nat → Int32, y9 = sv a_7 53 (i_3 42).toNatClampNeg v3 := ⟨_, rfl⟩
    replace hm := ob1_at ea_9 hm
    obtain ⟨hP, hD⟩ := xv_53 ea_9 hP hD
    obtain ⟨e1i, e1a, e3⟩ := re3 hm
    obtain ⟨hP, hD⟩ := x_eq e1i e1a hP hD
    exact W.vret hx hb hr (fun t9 ht hW => ⟨⟨(), rfl, trivial, by rw [ht]; exact hP, hD⟩, hS.F ht⟩) hS.2.2 d_Waiting_meetCall_39

def m_Machine_meetSign (n : Nat) (g : Nat → Nat) (i : Nat → Int32) (a : Nat → Nat → Int32) (v1 : Int32) (v2 : Int32) : Option ((Nat → Int32) × (Nat → Nat → Int32) × Int32) := if ((i 47)) = ((-2147483648 : Int32)) then some (i, a, (-2147483644)) else ck v2 150 (ck v2 150 (ob1 (sv a 39 v2.toNatClampNeg ((a 39 v2.toNatClampNeg) + 1) : Nat → Nat → Int32) (fun a_4 => ck v1 7 (ck v1 7 (ob (m_Waiting_meet n g i a_4 (1 : Int32) (tw_st 0 v1.toNatClampNeg) (2 : Int32) (tw_st 1 v1.toNatClampNeg)) (fun i_8 a_9 r_10 => ob1 (upd i_8 46 0 : Nat → Int32) (fun i_11 => ob (m_Waiting_put n g i_11 a_9 (i_11 47)) (fun i_13 a_14 r_15 => ob (m_Waiting_settleLast n g i_13 a_14) (fun i_17 a_18 r_19 => some (i_17, a_18, r_19))))))))))
set_option maxHeartbeats 4000000 in
set_option maxRecDepth 100000 in
theorem x_Machine_meetSign (l : Launch) (dC : Nat → ClassId) (dI : Nat → Nat → Nat) (cI : ClassId) (adK adV adA u o g : Nat → Nat) (sz : Nat) (n : Nat) {i : Nat → Int32} {a : Nat → Nat → Int32} {v1 : Int32} {v2 : Int32} {i2 : Nat → Int32} {a2 : Nat → Nat → Int32} {r2 : Int32} (hm : m_Machine_meetSign n g i a v1 v2 = some (i2, a2, r2)) : Met l y_Machine_meetSign w_Machine_meetSign ({ frames := 1, cells := 0, slots := 0, locals := 24 } : Room) (va_Pc [.ref ((u 11)), .int v1, .int v2] (xE dC dI cI adK adV adA u o g i a sz)) (va_Qi (xR r2) (xB dC dI cI u o g i2 a2 (va_A (TW cI u o i a g) sz)) (va_A (TW cI u o i a g) sz)) 0 0 ((va_A (TW cI u o i a g) sz)) := by
  refine Met.ofW (cc := b_Machine_meetSign) (maxL := 3) (ret := (some .int)) (by decide) rfl ?_
  intro p e s m args below meth c s₁ B hml hv
  obtain ⟨rfl, hsz, hP, hK, hE, hD0⟩ := hv
  have hx := B.exec
  have hb := B.bytes
  have hr := B.returns
  have hts := atoms_spec (ws := w_Machine_meetSign) B.pre
  have htt : ∀ w ∈ tw_T, w.before _ s = true := fun w h => hts w (List.mem_cons_of_mem _ h)
  have hown : s.vm.findClass R_Machine = some m.cls := findClass_of_methodNamed B.named
  have hlocks := B.notSynchronized
  subst hsz
  have hD := hD0.self (sz := s.heap.size)
  generalize hAe : (va_A (TW cI u o i a g) s.heap.size) = A at hD hE ⊢
  have hA : ∀ q : Nat, s.heap.size ≤ q → A q := fun q h => by rw [← hAe]; exact Or.inr h
  have hS : va_S A s.heap s.heap [] := va_S.rf
  have hl := lv_entry ([.ref ((u 11)), .int v1, .int v2]) (n := 3) (Nat.le_of_ble_eq_true rfl)
  rw [lg_entry_eq]
  generalize (lg_sl ([.ref ((u 11)), .int v1, .int v2]) ++ List.replicate (3 - (lg_sl ([.ref ((u 11)), .int v1, .int v2])).length) Slot.unset).toArray = ls at hl ⊢
  have hl : lv_has ls 3 [(0, .ref ((u 11))), (1, .int v1), (2, .int v2)] := hl
  rw [m_Machine_meetSign] at hm
  refine lv_aload_n hx hb d_Machine_meetSign_0 rfl (lv_at hl 0 rfl) ?_
  refine va_get (D := (dC, dI)) (ci := 11) (v := .int (i 47)) (C := R_Machine) (T := F_Machine) (N := 9) hx hb htt iw_Machine hown hK hP 11 xo_11 rfl 8 (Nat.le_of_ble_eq_true rfl) (htt _ lk_Machine_111) (fun _ h9 => h9) xg_11_8 d_Machine_meetSign_1 ?_
  refine lv_ldc (v := (-2147483648)) hx hb hown (htt _ lk_Machine_114) d_Machine_meetSign_4 ?_
  refine lv_icmp_ne (tgt := 12) hx hb d_Machine_meetSign_6 (by decide) (fun c_1 => ?_) (fun c_1 => ?_)
  · replace hm := if_f c_1 hm
    refine lv_aload_n hx hb d_Machine_meetSign_12 rfl (lv_at hl 0 rfl) ?_
    refine va_get (D := (dC, dI)) (ci := 11) (v := .ref ((u 8))) (C := R_Machine) (T := F_Machine) (N := 9) hx hb htt iw_Machine hown hK hP 11 xo_11 rfl 1 (Nat.le_of_ble_eq_true rfl) (htt _ lk_Machine_18) (fun _ h9 => h9) xg_11_1 d_Machine_meetSign_13 ?_
    refine va_get (D := (dC, dI)) (ci := 8) (v := .ref ((u 49))) (C := R_Line) (T := F_Line) (N := 18) hx hb htt iw_Line hown hK hP 8 xo_8 rfl 10 (Nat.le_of_ble_eq_true rfl) (htt _ lk_Machine_164) (fun _ h9 => h9) xg_8_10 d_Machine_meetSign_16 ?_
    refine lv_iload_n hx hb d_Machine_meetSign_19 rfl (lv_at hl 2 rfl) ?_
    refine lv_dup2_11 hx hb d_Machine_meetSign_20 rfl rfl ?_
    obtain ⟨h_2, hm⟩ := ck_some hm
    refine va_iald hx hb hK hP 51 0 twA_39 rfl h_2 d_Machine_meetSign_21 ?_
    refine lv_iconst (v := 1) hx hb d_Machine_meetSign_22 (by decide) ?_
    refine lv_iadd hx hb d_Machine_meetSign_23 ?_
    obtain ⟨h_3, hm⟩ := ck_some hm
    refine va_iast hx hb hK hP hD hS 51 0 twA_39 rfl h_3 d_Machine_meetSign_24 (fun H locs hP hD hS => ?_)
    obtain ⟨a_4, ea_4⟩ : ∃ y9 : Nat → Nat → Int32, y9 = sv a 39 v2.toNatClampNeg ((a 39 v2.toNatClampNeg) + 1) := ⟨_, rfl⟩
    replace hm := ob1_at ea_4 hm
    obtain ⟨hP, hD⟩ := xv_39 ea_4 hP hD
    refine lv_aload_n hx hb d_Machine_meetSign_25 rfl (lv_at hl 0 rfl) ?_
    refine va_get (D := (dC, dI)) (ci := 11) (v := .ref ((u 9))) (C := R_Machine) (T := F_Machine) (N := 9) hx hb htt iw_Machine hown hK hP 11 xo_11 rfl 2 (Nat.le_of_ble_eq_true rfl) (htt _ lk_Machine_22) (fun _ h9 => h9) xg_11_2 d_Machine_meetSign_26 ?_
    refine lv_iconst (v := 1) hx hb d_Machine_meetSign_29 (by decide) ?_
    refine va_gets hx hb (hE.2 0 (by decide)).1 hS hown (htt _ lk_Machine_248) (fun _ h9 => h9) d_Machine_meetSign_30 ?_
    refine lv_iload_n hx hb d_Machine_meetSign_33 rfl (lv_at hl 1 rfl) ?_
    obtain ⟨h_5, hm⟩ := ck_some hm
    refine va_ti (N := 7) (v := .int (tw_st 0 v1.toNatClampNeg)) hx hb (hE.2 0 (by decide)).2 hS h_5 rfl d_Machine_meetSign_34 ?_
    refine lv_iconst (v := 2) hx hb d_Machine_meetSign_35 (by decide) ?_
    refine va_gets hx hb (hE.2 1 (by decide)).1 hS hown (htt _ lk_Machine_229) (fun _ h9 => h9) d_Machine_meetSign_36 ?_
    refine lv_iload_n hx hb d_Machine_meetSign_39 rfl (lv_at hl 1 rfl) ?_
    obtain ⟨h_6, hm⟩ := ck_some hm
    refine va_ti (N := 7) (v := .int (tw_st 1 v1.toNatClampNeg)) hx hb (hE.2 1 (by decide)).2 hS h_6 rfl d_Machine_meetSign_40 ?_
    obtain ⟨i_8, a_9, r_10, h_7, hm⟩ := ob_some hm
    have hFc := x_free hD hS hA
    refine va_callv (va_runV (As := [.int 1, .int (tw_st 0 v1.toNatClampNeg), .int 2, .int (tw_st 1 v1.toNatClampNeg)]) (rest := []) ⟨hx, hb, hml, hown, hts⟩ (x_Waiting_meet l dC dI cI adK adV adA u o g H.size n h_7) (cwV 4 hts (tw_GV tw_cons cw_Waiting_meet lk_Machine_205 in_Waiting_meet sel_Waiting_meet ini_Waiting) rfl rfl rfl ⟨rfl, hd_Waiting_meet⟩ ⟨Nat.le_of_ble_eq_true rfl, Nat.le_of_ble_eq_true rfl⟩) (xpV hK hP hD hS hE hFc xo_9 rfl) rfl rfl hl.1 rfl (lv_room (Nat.le_of_ble_eq_true rfl)) d_Machine_meetSign_41 ⟨Nat.le_of_ble_eq_true rfl, Nat.le_of_ble_eq_true rfl⟩) hS (fun q _ h => hFc q h) hFc (fun u9 t9 H locs ht hvm e9 hB hz1 hk1 hS => ?_)
    obtain ⟨hP, hD⟩ := x_aft hB ht hFc
    clear hFc hk1 hz1 hvm hB ht
    refine lv_aload_n hx hb d_Machine_meetSign_44 rfl (lv_at hl 0 rfl) ?_
    refine lv_iconst (v := 0) hx hb d_Machine_meetSign_45 (by decide) ?_
    refine va_put (D := (dC, dI)) (ci := 11) (v := .int 0) (ty := .int) (C := R_Machine) (T := F_Machine) (N := 9) hx hb htt iw_Machine t_Machine t_Machine_ok n_Machine hown hK hP hD hS 11 xo_11 rfl 7 (Nat.le_of_ble_eq_true rfl) (htt _ lk_Machine_62) (fun _ h9 => h9) rfl (by decide +kernel) rfl rfl xl_11_7 d_Machine_meetSign_46 (fun H locs hP hD hS => ?_)
    obtain ⟨i_11, ei_11⟩ : ∃ y9 : Nat → Int32, y9 = upd i_8 46 0 := ⟨_, rfl⟩
    replace hm := ob1_at ei_11 hm
    obtain ⟨hP, hD⟩ := xw_46 ei_11 hP hD
    refine lv_aload_n hx hb d_Machine_meetSign_49 rfl (lv_at hl 0 rfl) ?_
    refine va_get (D := (dC, dI)) (ci := 11) (v := .ref ((u 9))) (C := R_Machine) (T := F_Machine) (N := 9) hx hb htt iw_Machine hown hK hP 11 xo_11 rfl 2 (Nat.le_of_ble_eq_true rfl) (htt _ lk_Machine_22) (fun _ h9 => h9) xg_11_2 d_Machine_meetSign_50 ?_
    refine lv_aload_n hx hb d_Machine_meetSign_53 rfl (lv_at hl 0 rfl) ?_
    refine va_get (D := (dC, dI)) (ci := 11) (v := .int (i_11 47)) (C := R_Machine) (T := F_Machine) (N := 9) hx hb htt iw_Machine hown hK hP 11 xo_11 rfl 8 (Nat.le_of_ble_eq_true rfl) (htt _ lk_Machine_111) (fun _ h9 => h9) xg_11_8 d_Machine_meetSign_54 ?_
    obtain ⟨i_13, a_14, r_15, h_12, hm⟩ := ob_some hm
    have hFc := x_free hD hS hA
    refine va_callv (va_runV (As := [.int (i_11 47)]) (rest := []) ⟨hx, hb, hml, hown, hts⟩ (x_Waiting_put l dC dI cI adK adV adA u o g H.size n h_12) (cwV 1 hts (tw_GV tw_cons cw_Waiting_put lk_Machine_251 in_Waiting_put sel_Waiting_put ini_Waiting) rfl rfl rfl ⟨rfl, hd_Waiting_put⟩ ⟨Nat.le_of_ble_eq_true rfl, Nat.le_of_ble_eq_true rfl⟩) (xpV hK hP hD hS hE hFc xo_9 rfl) rfl rfl hl.1 rfl (lv_room (Nat.le_of_ble_eq_true rfl)) d_Machine_meetSign_57 ⟨Nat.le_of_ble_eq_true rfl, Nat.le_of_ble_eq_true rfl⟩) hS (fun q _ h => hFc q h) hFc (fun u9 t9 H locs ht hvm e9 hB hz1 hk1 hS => ?_)
    obtain ⟨hP, hD⟩ := x_aft hB ht hFc
    clear hFc hk1 hz1 hvm hB ht
    refine lv_aload_n hx hb d_Machine_meetSign_60 rfl (lv_at hl 0 rfl) ?_
    refine va_get (D := (dC, dI)) (ci := 11) (v := .ref ((u 9))) (C := R_Machine) (T := F_Machine) (N := 9) hx hb htt iw_Machine hown hK hP 11 xo_11 rfl 2 (Nat.le_of_ble_eq_true rfl) (htt _ lk_Machine_22) (fun _ h9 => h9) xg_11_2 d_Machine_meetSign_61 ?_
    obtain ⟨i_17, a_18, r_19, h_16, hm⟩ := ob_some hm
    have hFc := x_free hD hS hA
    refine va_calli (va_runV (As := []) (rest := []) ⟨hx, hb, hml, hown, hts⟩ (x_Waiting_settleLast l dC dI cI adK adV adA u o g H.size n h_16) (cwV 0 hts (tw_GV tw_cons cw_Waiting_settleLast lk_Machine_209 in_Waiting_settleLast sel_Waiting_settleLast ini_Waiting) rfl rfl rfl ⟨rfl, hd_Waiting_settleLast⟩ ⟨Nat.le_of_ble_eq_true rfl, Nat.le_of_ble_eq_true rfl⟩) (xpV hK hP hD hS hE hFc xo_9 rfl) rfl rfl hl.1 rfl (lv_room (Nat.le_of_ble_eq_true rfl)) d_Machine_meetSign_64 ⟨Nat.le_of_ble_eq_true rfl, Nat.le_of_ble_eq_true rfl⟩) hS (fun q _ h => hFc q h) hFc (fun r9 u9 t9 H locs ht hvm e9 hB hz1 hk1 hS => ?_)
    have e9 : r_19 = r9 := e9
    subst e9
    obtain ⟨hP, hD⟩ := x_aft hB ht hFc
    clear hFc hk1 hz1 hvm hB ht
    obtain ⟨e1i, e1a, e3⟩ := re3 hm
    obtain ⟨hP, hD⟩ := x_eq e1i e1a hP hD
    exact W.iret hx hb hr (fun t9 ht hW => ⟨⟨_, (), rfl, e3.symm, by rw [ht]; exact hP, hD⟩, hS.F ht⟩) hS.2.2 d_Machine_meetSign_67
  · replace hm := if_t c_1 hm
    refine lv_ldc (v := (-2147483644)) hx hb hown (htt _ lk_Machine_160) d_Machine_meetSign_9 ?_
    obtain ⟨e1i, e1a, e3⟩ := re3 hm
    obtain ⟨hP, hD⟩ := x_eq e1i e1a hP hD
    exact W.iret hx hb hr (fun t9 ht hW => ⟨⟨_, (), rfl, e3.symm, by rw [ht]; exact hP, hD⟩, hS.F ht⟩) hS.2.2 d_Machine_meetSign_11

def m_Machine_settleWhole_b50 (n : Nat) (g : Nat → Nat) (i : Nat → Int32) (a : Nat → Nat → Int32) (v1 : Int32) (s0 : Int32) : Option ((Nat → Int32) × (Nat → Nat → Int32) × Int32) := ck v1 150 (if ((a 37 v1.toNatClampNeg)) < ((6 : Int32)) then some (i, a, (-2147483643)) else if s0 = ((0 : Int32)) then some (i, a, (-2147483643)) else ob (m_Machine_finishGiving n g i a (i 47)) (fun i_5 a_6 r_7 => some (i_5, a_6, r_7)))
set_option maxHeartbeats 4000000 in
set_option maxRecDepth 100000 in
theorem lb_Machine_settleWhole_50 (l : Launch) (dC : Nat → ClassId) (dI : Nat → Nat → Nat) (cI : ClassId) (adK adV adA u o g : Nat → Nat) (n : Nat) {p : Program} {e : Env} {s : State} {m : MethodId} {args : Array Value} {below : List Frame} {meth : Method} {c : Code} {A : Nat → Prop} (hx : p.tables.exec = Jvm.exec) (hb : c.code = b_Machine_settleWhole) (hml : c.maxLocals = 3) (hown : s.vm.findClass R_Machine = some m.cls) (hts : ∀ w ∈ w_Machine_settleWhole, w.before args s = true) (hK : va_K (dC, dI) classes [(cI, .int)] s) (hE : tw_E adK adV adA A s s.heap) (hA : ∀ q : Nat, s.heap.size ≤ q → A q) (hr : meth.sig.returnType = (some .int)) (hlocks : meth.locks = false) {i2 : Nat → Int32} {a2 : Nat → Nat → Int32} {r2 : Int32} (i : Nat → Int32) (a : Nat → Nat → Int32) (v1 : Int32) (s0 : Int32) (hm : m_Machine_settleWhole_b50 n g i a v1 s0 = some (i2, a2, r2)) : ∀ (H : Heap) (locs : List Loc) (ls : Array Slot), va_P (dC, dI) classes (TW cI u o i a g) H → va_D A (TW cI u o i a g) → va_S A s.heap H locs → lv_has ls 3 [(0, .ref ((u 11))), (1, .int v1)] → W p l e ({ frames := 1, cells := 0, slots := 0, locals := 22 } : Room) s m args below meth c H locs 0 0 (MQ below (va_Qi (xR r2) (xB dC dI cI u o g i2 a2 A) A) args s 0 0 A) (F0 m 50 ls [.int s0]) := by
  have htt : ∀ w ∈ tw_T, w.before _ s = true := fun w h => hts w (List.mem_cons_of_mem _ h)
  intro H locs ls hP hD hS hl
  rw [m_Machine_settleWhole_b50] at hm
  refine lv_istore_n (lv' := [(2, .int s0), (0, .ref ((u 11))), (1, .int v1)]) hx hb d_Machine_settleWhole_50 rfl hl (by decide) rfl (fun ls hl => ?_)
  refine lv_aload_n hx hb d_Machine_settleWhole_51 rfl (lv_at hl 1 rfl) ?_
  refine va_get (D := (dC, dI)) (ci := 11) (v := .ref ((u 8))) (C := R_Machine) (T := F_Machine) (N := 9) hx hb htt iw_Machine hown hK hP 11 xo_11 rfl 1 (Nat.le_of_ble_eq_true rfl) (htt _ lk_Machine_18) (fun _ h9 => h9) xg_11_1 d_Machine_settleWhole_52 ?_
  refine va_get (D := (dC, dI)) (ci := 8) (v := .ref ((u 47))) (C := R_Line) (T := F_Line) (N := 18) hx hb htt iw_Line hown hK hP 8 xo_8 rfl 8 (Nat.le_of_ble_eq_true rfl) (htt _ lk_Machine_133) (fun _ h9 => h9) xg_8_8 d_Machine_settleWhole_55 ?_
  refine lv_iload_n hx hb d_Machine_settleWhole_58 rfl (lv_at hl 2 rfl) ?_
  obtain ⟨h_1, hm⟩ := ck_some hm
  refine va_iald hx hb hK hP 49 0 twA_37 rfl h_1 d_Machine_settleWhole_59 ?_
  refine lv_bipush (v := 6) hx hb d_Machine_settleWhole_60 (by decide) ?_
  refine lv_icmp_lt (tgt := 69) hx hb d_Machine_settleWhole_62 (by decide) (fun c_2 => ?_) (fun c_2 => ?_)
  · replace hm := if_t c_2 hm
    refine lv_ldc (v := (-2147483643)) hx hb hown (htt _ lk_Machine_254) d_Machine_settleWhole_69 ?_
    obtain ⟨e1i, e1a, e3⟩ := re3 hm
    obtain ⟨hP, hD⟩ := x_eq e1i e1a hP hD
    exact W.iret hx hb hr (fun t9 ht hW => ⟨⟨_, (), rfl, e3.symm, by rw [ht]; exact hP, hD⟩, hS.F ht⟩) hS.2.2 d_Machine_settleWhole_71
  · replace hm := if_f c_2 hm
    refine lv_iload_n hx hb d_Machine_settleWhole_65 rfl (lv_at hl 0 rfl) ?_
    refine lv_if_ne (tgt := 72) hx hb d_Machine_settleWhole_66 (by decide) (fun c_3 => ?_) (fun c_3 => ?_)
    · replace hm := if_f c_3 hm
      refine lv_aload_n hx hb d_Machine_settleWhole_72 rfl (lv_at hl 1 rfl) ?_
      refine lv_aload_n hx hb d_Machine_settleWhole_73 rfl (lv_at hl 1 rfl) ?_
      refine va_get (D := (dC, dI)) (ci := 11) (v := .int (i 47)) (C := R_Machine) (T := F_Machine) (N := 9) hx hb htt iw_Machine hown hK hP 11 xo_11 rfl 8 (Nat.le_of_ble_eq_true rfl) (htt _ lk_Machine_111) (fun _ h9 => h9) xg_11_8 d_Machine_settleWhole_74 ?_
      obtain ⟨i_5, a_6, r_7, h_4, hm⟩ := ob_some hm
      have hFc := x_free hD hS hA
      refine va_calli (va_runV (As := [.int (i 47)]) (rest := []) ⟨hx, hb, hml, hown, hts⟩ (x_Machine_finishGiving l dC dI cI adK adV adA u o g H.size n h_4) (cwV 1 hts (tw_GV tw_cons cw_Machine_finishGiving lk_Machine_170 in_Machine_finishGiving sel_Machine_finishGiving ini_Machine) rfl rfl rfl ⟨rfl, hd_Machine_finishGiving⟩ ⟨Nat.le_of_ble_eq_true rfl, Nat.le_of_ble_eq_true rfl⟩) (xpV hK hP hD hS hE hFc xo_11 rfl) rfl rfl hl.1 rfl (lv_room (Nat.le_of_ble_eq_true rfl)) d_Machine_settleWhole_77 ⟨Nat.le_of_ble_eq_true rfl, Nat.le_of_ble_eq_true rfl⟩) hS (fun q _ h => hFc q h) hFc (fun r9 u9 t9 H locs ht hvm e9 hB hz1 hk1 hS => ?_)
      have e9 : r_7 = r9 := e9
      subst e9
      obtain ⟨hP, hD⟩ := x_aft hB ht hFc
      clear hFc hk1 hz1 hvm hB ht
      obtain ⟨e1i, e1a, e3⟩ := re3 hm
      obtain ⟨hP, hD⟩ := x_eq e1i e1a hP hD
      exact W.iret hx hb hr (fun t9 ht hW => ⟨⟨_, (), rfl, e3.symm, by rw [ht]; exact hP, hD⟩, hS.F ht⟩) hS.2.2 d_Machine_settleWhole_80
    · replace hm := if_t c_3 hm
      refine lv_ldc (v := (-2147483643)) hx hb hown (htt _ lk_Machine_254) d_Machine_settleWhole_69 ?_
      obtain ⟨e1i, e1a, e3⟩ := re3 hm
      obtain ⟨hP, hD⟩ := x_eq e1i e1a hP hD
      exact W.iret hx hb hr (fun t9 ht hW => ⟨⟨_, (), rfl, e3.symm, by rw [ht]; exact hP, hD⟩, hS.F ht⟩) hS.2.2 d_Machine_settleWhole_71
def m_Machine_settleWhole (n : Nat) (g : Nat → Nat) (i : Nat → Int32) (a : Nat → Nat → Int32) (v1 : Int32) : Option ((Nat → Int32) × (Nat → Nat → Int32) × Int32) := if ((i 47)) = ((-2147483648 : Int32)) then ob1 (upd i 46 0 : Nat → Int32) (fun i_7 => some (i_7, a, (-2147483584))) else ck v1 150 (ck v1 150 (ob0 (m_Heap_count n g i a (a 38 v1.toNatClampNeg)) (fun r_5 => if ((a 39 v1.toNatClampNeg)) < r_5 then m_Machine_settleWhole_b50 n g i a v1 (0 : Int32) else m_Machine_settleWhole_b50 n g i a v1 (1 : Int32))))
set_option maxHeartbeats 4000000 in
set_option maxRecDepth 100000 in
theorem x_Machine_settleWhole (l : Launch) (dC : Nat → ClassId) (dI : Nat → Nat → Nat) (cI : ClassId) (adK adV adA u o g : Nat → Nat) (sz : Nat) (n : Nat) {i : Nat → Int32} {a : Nat → Nat → Int32} {v1 : Int32} {i2 : Nat → Int32} {a2 : Nat → Nat → Int32} {r2 : Int32} (hm : m_Machine_settleWhole n g i a v1 = some (i2, a2, r2)) : Met l y_Machine_settleWhole w_Machine_settleWhole ({ frames := 1, cells := 0, slots := 0, locals := 22 } : Room) (va_Pc [.ref ((u 11)), .int v1] (xE dC dI cI adK adV adA u o g i a sz)) (va_Qi (xR r2) (xB dC dI cI u o g i2 a2 (va_A (TW cI u o i a g) sz)) (va_A (TW cI u o i a g) sz)) 0 0 ((va_A (TW cI u o i a g) sz)) := by
  refine Met.ofW (cc := b_Machine_settleWhole) (maxL := 3) (ret := (some .int)) (by decide) rfl ?_
  intro p e s m args below meth c s₁ B hml hv
  obtain ⟨rfl, hsz, hP, hK, hE, hD0⟩ := hv
  have hx := B.exec
  have hb := B.bytes
  have hr := B.returns
  have hts := atoms_spec (ws := w_Machine_settleWhole) B.pre
  have htt : ∀ w ∈ tw_T, w.before _ s = true := fun w h => hts w (List.mem_cons_of_mem _ h)
  have hown : s.vm.findClass R_Machine = some m.cls := findClass_of_methodNamed B.named
  have hlocks := B.notSynchronized
  subst hsz
  have hD := hD0.self (sz := s.heap.size)
  generalize hAe : (va_A (TW cI u o i a g) s.heap.size) = A at hD hE ⊢
  have hA : ∀ q : Nat, s.heap.size ≤ q → A q := fun q h => by rw [← hAe]; exact Or.inr h
  have hS : va_S A s.heap s.heap [] := va_S.rf
  have hl := lv_entry ([.ref ((u 11)), .int v1]) (n := 3) (Nat.le_of_ble_eq_true rfl)
  rw [lg_entry_eq]
  generalize (lg_sl ([.ref ((u 11)), .int v1]) ++ List.replicate (3 - (lg_sl ([.ref ((u 11)), .int v1])).length) Slot.unset).toArray = ls at hl ⊢
  have hl : lv_has ls 3 [(0, .ref ((u 11))), (1, .int v1)] := hl
  rw [m_Machine_settleWhole] at hm
  refine lv_aload_n hx hb d_Machine_settleWhole_0 rfl (lv_at hl 0 rfl) ?_
  refine va_get (D := (dC, dI)) (ci := 11) (v := .int (i 47)) (C := R_Machine) (T := F_Machine) (N := 9) hx hb htt iw_Machine hown hK hP 11 xo_11 rfl 8 (Nat.le_of_ble_eq_true rfl) (htt _ lk_Machine_111) (fun _ h9 => h9) xg_11_8 d_Machine_settleWhole_1 ?_
  refine lv_ldc (v := (-2147483648)) hx hb hown (htt _ lk_Machine_114) d_Machine_settleWhole_4 ?_
  refine lv_icmp_ne (tgt := 17) hx hb d_Machine_settleWhole_6 (by decide) (fun c_1 => ?_) (fun c_1 => ?_)
  · replace hm := if_f c_1 hm
    refine lv_aload_n hx hb d_Machine_settleWhole_17 rfl (lv_at hl 0 rfl) ?_
    refine va_get (D := (dC, dI)) (ci := 11) (v := .ref ((u 8))) (C := R_Machine) (T := F_Machine) (N := 9) hx hb htt iw_Machine hown hK hP 11 xo_11 rfl 1 (Nat.le_of_ble_eq_true rfl) (htt _ lk_Machine_18) (fun _ h9 => h9) xg_11_1 d_Machine_settleWhole_18 ?_
    refine va_get (D := (dC, dI)) (ci := 8) (v := .ref ((u 49))) (C := R_Line) (T := F_Line) (N := 18) hx hb htt iw_Line hown hK hP 8 xo_8 rfl 10 (Nat.le_of_ble_eq_true rfl) (htt _ lk_Machine_164) (fun _ h9 => h9) xg_8_10 d_Machine_settleWhole_21 ?_
    refine lv_iload_n hx hb d_Machine_settleWhole_24 rfl (lv_at hl 1 rfl) ?_
    obtain ⟨h_2, hm⟩ := ck_some hm
    refine va_iald hx hb hK hP 51 0 twA_39 rfl h_2 d_Machine_settleWhole_25 ?_
    refine lv_aload_n hx hb d_Machine_settleWhole_26 rfl (lv_at hl 0 rfl) ?_
    refine va_get (D := (dC, dI)) (ci := 11) (v := .ref ((u 1))) (C := R_Machine) (T := F_Machine) (N := 9) hx hb htt iw_Machine hown hK hP 11 xo_11 rfl 0 (Nat.le_of_ble_eq_true rfl) (htt _ lk_Machine_15) (fun _ h9 => h9) xg_11_0 d_Machine_settleWhole_27 ?_
    refine lv_aload_n hx hb d_Machine_settleWhole_30 rfl (lv_at hl 0 rfl) ?_
    refine va_get (D := (dC, dI)) (ci := 11) (v := .ref ((u 8))) (C := R_Machine) (T := F_Machine) (N := 9) hx hb htt iw_Machine hown hK hP 11 xo_11 rfl 1 (Nat.le_of_ble_eq_true rfl) (htt _ lk_Machine_18) (fun _ h9 => h9) xg_11_1 d_Machine_settleWhole_31 ?_
    refine va_get (D := (dC, dI)) (ci := 8) (v := .ref ((u 48))) (C := R_Line) (T := F_Line) (N := 18) hx hb htt iw_Line hown hK hP 8 xo_8 rfl 9 (Nat.le_of_ble_eq_true rfl) (htt _ lk_Machine_161) (fun _ h9 => h9) xg_8_9 d_Machine_settleWhole_34 ?_
    refine lv_iload_n hx hb d_Machine_settleWhole_37 rfl (lv_at hl 1 rfl) ?_
    obtain ⟨h_3, hm⟩ := ck_some hm
    refine va_iald hx hb hK hP 50 0 twA_38 rfl h_3 d_Machine_settleWhole_38 ?_
    obtain ⟨r_5, h_4, hm⟩ := ob0_some hm
    have hFc := x_free0 hS hA
    refine va_calli (va_runV (As := [.int (a 38 v1.toNatClampNeg)]) (rest := [.int (a 39 v1.toNatClampNeg)]) ⟨hx, hb, hml, hown, hts⟩ (x_Heap_count l dC dI cI adK adV adA u o g s.heap.size n h_4) (cwV 1 hts (tw_GV tw_cons cw_Heap_count lk_Machine_221 in_Heap_count sel_Heap_count ini_Heap) rfl rfl rfl ⟨rfl, hd_Heap_count⟩ ⟨Nat.le_of_ble_eq_true rfl, Nat.le_of_ble_eq_true rfl⟩) (xpVr hK hP hS hE hFc xo_1 rfl) rfl rfl hl.1 rfl (lv_room (Nat.le_of_ble_eq_true rfl)) d_Machine_settleWhole_39 ⟨Nat.le_of_ble_eq_true rfl, Nat.le_of_ble_eq_true rfl⟩) hS (fun q _ h => hFc q h) hFc (fun r9 u9 t9 H locs ht hvm e9 hB hz1 hk1 hS => ?_)
    have e9 : r_5 = r9 := e9
    subst e9
    replace hP := x_keep hP hk1
    clear hFc hk1 hz1 hvm hB ht
    refine lv_icmp_lt (tgt := 49) hx hb d_Machine_settleWhole_42 (by decide) (fun c_6 => ?_) (fun c_6 => ?_)
    · replace hm := if_t c_6 hm
      refine lv_iconst (v := 0) hx hb d_Machine_settleWhole_49 (by decide) ?_
      exact lb_Machine_settleWhole_50 l dC dI cI adK adV adA u o g n hx hb hml hown hts hK hE hA hr hlocks _ _ _ _ hm _ _ _ hP hD hS (lv_sub hl [0, 1] rfl)
    · replace hm := if_f c_6 hm
      refine lv_iconst (v := 1) hx hb d_Machine_settleWhole_45 (by decide) ?_
      refine lv_goto (tgt := 50) hx hb d_Machine_settleWhole_46 (by decide) ?_
      exact lb_Machine_settleWhole_50 l dC dI cI adK adV adA u o g n hx hb hml hown hts hK hE hA hr hlocks _ _ _ _ hm _ _ _ hP hD hS (lv_sub hl [0, 1] rfl)
  · replace hm := if_t c_1 hm
    refine lv_aload_n hx hb d_Machine_settleWhole_9 rfl (lv_at hl 0 rfl) ?_
    refine lv_iconst (v := 0) hx hb d_Machine_settleWhole_10 (by decide) ?_
    refine va_put (D := (dC, dI)) (ci := 11) (v := .int 0) (ty := .int) (C := R_Machine) (T := F_Machine) (N := 9) hx hb htt iw_Machine t_Machine t_Machine_ok n_Machine hown hK hP hD hS 11 xo_11 rfl 7 (Nat.le_of_ble_eq_true rfl) (htt _ lk_Machine_62) (fun _ h9 => h9) rfl (by decide +kernel) rfl rfl xl_11_7 d_Machine_settleWhole_11 (fun H locs hP hD hS => ?_)
    obtain ⟨i_7, ei_7⟩ : ∃ y9 : Nat → Int32, y9 = upd i 46 0 := ⟨_, rfl⟩
    replace hm := ob1_at ei_7 hm
    obtain ⟨hP, hD⟩ := xw_46 ei_7 hP hD
    refine lv_ldc (v := (-2147483584)) hx hb hown (htt _ lk_Machine_110) d_Machine_settleWhole_14 ?_
    obtain ⟨e1i, e1a, e3⟩ := re3 hm
    obtain ⟨hP, hD⟩ := x_eq e1i e1a hP hD
    exact W.iret hx hb hr (fun t9 ht hW => ⟨⟨_, (), rfl, e3.symm, by rw [ht]; exact hP, hD⟩, hS.F ht⟩) hS.2.2 d_Machine_settleWhole_16

def m_Waiting_supply (n : Nat) (g : Nat → Nat) (i : Nat → Int32) (a : Nat → Nat → Int32) (v1 : Int32) : Option ((Nat → Int32) × (Nat → Nat → Int32) × Int32) := ob (m_Waiting_put n g i a v1) (fun i_2 a_3 r_4 => ob1 ((i_2 42) - 1 : Int32) (fun x_5 => if x_5 < ((0 : Int32)) then some (i_2, a_3, (0 : Int32)) else ck x_5 401 (ck x_5 401 (if (((i_2 43) - (a_3 51 x_5.toNatClampNeg))) < ((a_3 49 x_5.toNatClampNeg)) then some (i_2, a_3, (0 : Int32)) else ob1 (upd i_2 42 x_5 : Nat → Int32) (fun i_10 => ck x_5 401 (ob1 (a_3 47 x_5.toNatClampNeg : Int32) (fun x_12 => ob1 (upd i_10 44 x_12 : Nat → Int32) (fun i_13 => some (i_13, a_3, (0 : Int32))))))))))
set_option maxHeartbeats 4000000 in
set_option maxRecDepth 100000 in
theorem x_Waiting_supply (l : Launch) (dC : Nat → ClassId) (dI : Nat → Nat → Nat) (cI : ClassId) (adK adV adA u o g : Nat → Nat) (sz : Nat) (n : Nat) {i : Nat → Int32} {a : Nat → Nat → Int32} {v1 : Int32} {i2 : Nat → Int32} {a2 : Nat → Nat → Int32} {r2 : Int32} (hm : m_Waiting_supply n g i a v1 = some (i2, a2, r2)) : Met l y_Waiting_supply w_Waiting_supply ({ frames := 1, cells := 0, slots := 0, locals := 21 } : Room) (va_Pc [.ref ((u 9)), .int v1] (xE dC dI cI adK adV adA u o g i a sz)) (va_Qv xV (xB dC dI cI u o g i2 a2 (va_A (TW cI u o i a g) sz)) (va_A (TW cI u o i a g) sz)) 0 0 ((va_A (TW cI u o i a g) sz)) := by
  refine Met.ofW (cc := b_Waiting_supply) (maxL := 3) (ret := none) (by decide) rfl ?_
  intro p e s m args below meth c s₁ B hml hv
  obtain ⟨rfl, hsz, hP, hK, hE, hD0⟩ := hv
  have hx := B.exec
  have hb := B.bytes
  have hr := B.returns
  have hts := atoms_spec (ws := w_Waiting_supply) B.pre
  have htt : ∀ w ∈ tw_T, w.before _ s = true := fun w h => hts w (List.mem_cons_of_mem _ h)
  have hown : s.vm.findClass R_Waiting = some m.cls := findClass_of_methodNamed B.named
  have hlocks := B.notSynchronized
  subst hsz
  have hD := hD0.self (sz := s.heap.size)
  generalize hAe : (va_A (TW cI u o i a g) s.heap.size) = A at hD hE ⊢
  have hA : ∀ q : Nat, s.heap.size ≤ q → A q := fun q h => by rw [← hAe]; exact Or.inr h
  have hS : va_S A s.heap s.heap [] := va_S.rf
  have hl := lv_entry ([.ref ((u 9)), .int v1]) (n := 3) (Nat.le_of_ble_eq_true rfl)
  rw [lg_entry_eq]
  generalize (lg_sl ([.ref ((u 9)), .int v1]) ++ List.replicate (3 - (lg_sl ([.ref ((u 9)), .int v1])).length) Slot.unset).toArray = ls at hl ⊢
  have hl : lv_has ls 3 [(0, .ref ((u 9))), (1, .int v1)] := hl
  rw [m_Waiting_supply] at hm
  refine lv_aload_n hx hb d_Waiting_supply_0 rfl (lv_at hl 0 rfl) ?_
  refine lv_iload_n hx hb d_Waiting_supply_1 rfl (lv_at hl 1 rfl) ?_
  obtain ⟨i_2, a_3, r_4, h_1, hm⟩ := ob_some hm
  have hFc := x_free hD hS hA
  refine va_callv (va_runV (As := [.int v1]) (rest := []) ⟨hx, hb, hml, hown, hts⟩ (x_Waiting_put l dC dI cI adK adV adA u o g s.heap.size n h_1) (cwV 1 hts (tw_GV tw_cons cw_Waiting_put lk_Waiting_52 in_Waiting_put sel_Waiting_put ini_Waiting) rfl rfl rfl ⟨rfl, hd_Waiting_put⟩ ⟨Nat.le_of_ble_eq_true rfl, Nat.le_of_ble_eq_true rfl⟩) (xpV hK hP hD hS hE hFc xo_9 rfl) rfl rfl hl.1 rfl (lv_room (Nat.le_of_ble_eq_true rfl)) d_Waiting_supply_2 ⟨Nat.le_of_ble_eq_true rfl, Nat.le_of_ble_eq_true rfl⟩) hS (fun q _ h => hFc q h) hFc (fun u9 t9 H locs ht hvm e9 hB hz1 hk1 hS => ?_)
  obtain ⟨hP, hD⟩ := x_aft hB ht hFc
  clear hFc hk1 hz1 hvm hB ht
  refine lv_aload_n hx hb d_Waiting_supply_5 rfl (lv_at hl 0 rfl) ?_
  refine va_get (D := (dC, dI)) (ci := 9) (v := .int (i_2 42)) (C := R_Waiting) (T := F_Waiting) (N := 11) hx hb htt iw_Waiting hown hK hP 9 xo_9 rfl 7 (Nat.le_of_ble_eq_true rfl) (htt _ lk_Waiting_36) (fun _ h9 => h9) xg_9_7 d_Waiting_supply_6 ?_
  refine lv_iconst (v := 1) hx hb d_Waiting_supply_9 (by decide) ?_
  refine lv_isub hx hb d_Waiting_supply_10 ?_
  refine lv_topi (fun x_5 ex_5 => ?_)
  replace hm := ob1_at ex_5 hm
  refine lv_istore_n (lv' := [(2, .int x_5), (0, .ref ((u 9))), (1, .int v1)]) hx hb d_Waiting_supply_11 rfl hl (by decide) rfl (fun ls hl => ?_)
  refine lv_iload_n hx hb d_Waiting_supply_12 rfl (lv_at hl 0 rfl) ?_
  refine lv_if_lt (tgt := 51) hx hb d_Waiting_supply_13 (by decide) (fun c_6 => ?_) (fun c_6 => ?_)
  · replace hm := if_t c_6 hm
    obtain ⟨e1i, e1a, e3⟩ := re3 hm
    obtain ⟨hP, hD⟩ := x_eq e1i e1a hP hD
    exact W.vret hx hb hr (fun t9 ht hW => ⟨⟨(), rfl, trivial, by rw [ht]; exact hP, hD⟩, hS.F ht⟩) hS.2.2 d_Waiting_supply_51
  · replace hm := if_f c_6 hm
    refine lv_aload_n hx hb d_Waiting_supply_16 rfl (lv_at hl 1 rfl) ?_
    refine va_get (D := (dC, dI)) (ci := 9) (v := .int (i_2 43)) (C := R_Waiting) (T := F_Waiting) (N := 11) hx hb htt iw_Waiting hown hK hP 9 xo_9 rfl 9 (Nat.le_of_ble_eq_true rfl) (htt _ lk_Waiting_40) (fun _ h9 => h9) xg_9_9 d_Waiting_supply_17 ?_
    refine lv_aload_n hx hb d_Waiting_supply_20 rfl (lv_at hl 1 rfl) ?_
    refine va_get (D := (dC, dI)) (ci := 9) (v := .ref ((u 61))) (C := R_Waiting) (T := F_Waiting) (N := 11) hx hb htt iw_Waiting hown hK hP 9 xo_9 rfl 4 (Nat.le_of_ble_eq_true rfl) (htt _ lk_Waiting_24) (fun _ h9 => h9) xg_9_4 d_Waiting_supply_21 ?_
    refine lv_iload_n hx hb d_Waiting_supply_24 rfl (lv_at hl 0 rfl) ?_
    obtain ⟨h_7, hm⟩ := ck_some hm
    refine va_iald hx hb hK hP 63 0 twA_51 rfl h_7 d_Waiting_supply_25 ?_
    refine lv_isub hx hb d_Waiting_supply_26 ?_
    refine lv_aload_n hx hb d_Waiting_supply_27 rfl (lv_at hl 1 rfl) ?_
    refine va_get (D := (dC, dI)) (ci := 9) (v := .ref ((u 59))) (C := R_Waiting) (T := F_Waiting) (N := 11) hx hb htt iw_Waiting hown hK hP 9 xo_9 rfl 2 (Nat.le_of_ble_eq_true rfl) (htt _ lk_Waiting_18) (fun _ h9 => h9) xg_9_2 d_Waiting_supply_28 ?_
    refine lv_iload_n hx hb d_Waiting_supply_31 rfl (lv_at hl 0 rfl) ?_
    obtain ⟨h_8, hm⟩ := ck_some hm
    refine va_iald hx hb hK hP 61 0 twA_49 rfl h_8 d_Waiting_supply_32 ?_
    refine lv_icmp_lt (tgt := 51) hx hb d_Waiting_supply_33 (by decide) (fun c_9 => ?_) (fun c_9 => ?_)
    · replace hm := if_t c_9 hm
      obtain ⟨e1i, e1a, e3⟩ := re3 hm
      obtain ⟨hP, hD⟩ := x_eq e1i e1a hP hD
      exact W.vret hx hb hr (fun t9 ht hW => ⟨⟨(), rfl, trivial, by rw [ht]; exact hP, hD⟩, hS.F ht⟩) hS.2.2 d_Waiting_supply_51
    · replace hm := if_f c_9 hm
      refine lv_aload_n hx hb d_Waiting_supply_36 rfl (lv_at hl 1 rfl) ?_
      refine lv_iload_n hx hb d_Waiting_supply_37 rfl (lv_at hl 0 rfl) ?_
      refine va_put (D := (dC, dI)) (ci := 9) (v := .int x_5) (ty := .int) (C := R_Waiting) (T := F_Waiting) (N := 11) hx hb htt iw_Waiting t_Waiting t_Waiting_ok n_Waiting hown hK hP hD hS 9 xo_9 rfl 7 (Nat.le_of_ble_eq_true rfl) (htt _ lk_Waiting_36) (fun _ h9 => h9) rfl (by decide +kernel) rfl rfl xl_9_7 d_Waiting_supply_38 (fun H locs hP hD hS => ?_)
      obtain ⟨i_10, ei_10⟩ : ∃ y9 : Nat → Int32, y9 = upd i_2 42 x_5 := ⟨_, rfl⟩
      replace hm := ob1_at ei_10 hm
      obtain ⟨hP, hD⟩ := xw_42 ei_10 hP hD
      refine lv_aload_n hx hb d_Waiting_supply_41 rfl (lv_at hl 1 rfl) ?_
      refine lv_aload_n hx hb d_Waiting_supply_42 rfl (lv_at hl 1 rfl) ?_
      refine va_get (D := (dC, dI)) (ci := 9) (v := .ref ((u 57))) (C := R_Waiting) (T := F_Waiting) (N := 11) hx hb htt iw_Waiting hown hK hP 9 xo_9 rfl 0 (Nat.le_of_ble_eq_true rfl) (htt _ lk_Waiting_9) (fun _ h9 => h9) xg_9_0 d_Waiting_supply_43 ?_
      refine lv_iload_n hx hb d_Waiting_supply_46 rfl (lv_at hl 0 rfl) ?_
      obtain ⟨h_11, hm⟩ := ck_some hm
      refine va_iald hx hb hK hP 59 0 twA_47 rfl h_11 d_Waiting_supply_47 ?_
      refine lv_topi (fun x_12 ex_12 => ?_)
      replace hm := ob1_at ex_12 hm
      refine va_put (D := (dC, dI)) (ci := 9) (v := .int x_12) (ty := .int) (C := R_Waiting) (T := F_Waiting) (N := 11) hx hb htt iw_Waiting t_Waiting t_Waiting_ok n_Waiting hown hK hP hD hS 9 xo_9 rfl 10 (Nat.le_of_ble_eq_true rfl) (htt _ lk_Waiting_43) (fun _ h9 => h9) rfl (by decide +kernel) rfl rfl xl_9_10 d_Waiting_supply_48 (fun H locs hP hD hS => ?_)
      obtain ⟨i_13, ei_13⟩ : ∃ y9 : Nat → Int32, y9 = upd i_10 44 x_12 := ⟨_, rfl⟩
      replace hm := ob1_at ei_13 hm
      obtain ⟨hP, hD⟩ := xw_44 ei_13 hP hD
      obtain ⟨e1i, e1a, e3⟩ := re3 hm
      obtain ⟨hP, hD⟩ := x_eq e1i e1a hP hD
      exact W.vret hx hb hr (fun t9 ht hW => ⟨⟨(), rfl, trivial, by rw [ht]; exact hP, hD⟩, hS.F ht⟩) hS.2.2 d_Waiting_supply_51

def m_Machine_leave_b94 (n : Nat) (g : Nat → Nat) (rc_10 : (Nat → Int32) → (Nat → Nat → Int32) → Int32 → Int32 → Option ((Nat → Int32) × (Nat → Nat → Int32) × Int32)) (i : Nat → Int32) (a : Nat → Nat → Int32) (v1 : Int32) (v2 : Int32) : Option ((Nat → Int32) × (Nat → Nat → Int32) × Int32) := ck v2 150 (ob1 (a 44 v2.toNatClampNeg : Int32) (fun x_2 => ob1 (upd i 42 x_2 : Nat → Int32) (fun i_3 => ck v2 150 (ob1 (a 45 v2.toNatClampNeg : Int32) (fun x_5 => ob1 (upd i_3 43 x_5 : Nat → Int32) (fun i_6 => ob1 (upd i_6 40 v2 : Nat → Int32) (fun i_7 => ob1 (v2 + (-1) : Int32) (fun x_8 => rc_10 i_7 a v1 x_8))))))))
set_option maxHeartbeats 4000000 in
set_option maxRecDepth 100000 in
theorem lb_Machine_leave_94 (l : Launch) (dC : Nat → ClassId) (dI : Nat → Nat → Nat) (cI : ClassId) (adK adV adA u o g : Nat → Nat) (n : Nat) {p : Program} {e : Env} {s : State} {m : MethodId} {args : Array Value} {below : List Frame} {meth : Method} {c : Code} {A : Nat → Prop} (hx : p.tables.exec = Jvm.exec) (hb : c.code = b_Machine_leave) (hml : c.maxLocals = 3) (hown : s.vm.findClass R_Machine = some m.cls) (hts : ∀ w ∈ w_Machine_leave, w.before args s = true) (hK : va_K (dC, dI) classes [(cI, .int)] s) (hE : tw_E adK adV adA A s s.heap) (hA : ∀ q : Nat, s.heap.size ≤ q → A q) (hr : meth.sig.returnType = none) (hlocks : meth.locks = false) {i2 : Nat → Int32} {a2 : Nat → Nat → Int32} {r2 : Int32} (rc_10 : (Nat → Int32) → (Nat → Nat → Int32) → Int32 → Int32 → Option ((Nat → Int32) × (Nat → Nat → Int32) × Int32)) (Hrc_10 : ∀ (i : Nat → Int32) (a : Nat → Nat → Int32) (v1 : Int32) (v2 : Int32), rc_10 i a v1 v2 = some (i2, a2, r2) → ∀ (H : Heap) (locs : List Loc) (ls : Array Slot), va_P (dC, dI) classes (TW cI u o i a g) H → va_D A (TW cI u o i a g) → va_S A s.heap H locs → lv_has ls 3 [(0, .ref ((u 11))), (1, .int v1), (2, .int v2)] → W p l e ({ frames := 1, cells := 0, slots := 0, locals := 21 } : Room) s m args below meth c H locs 0 0 (MQ below (va_Qv xV (xB dC dI cI u o g i2 a2 A) A) args s 0 0 A) (F0 m 10 ls [])) (i : Nat → Int32) (a : Nat → Nat → Int32) (v1 : Int32) (v2 : Int32) (hm : m_Machine_leave_b94 n g rc_10 i a v1 v2 = some (i2, a2, r2)) : ∀ (H : Heap) (locs : List Loc) (ls : Array Slot), va_P (dC, dI) classes (TW cI u o i a g) H → va_D A (TW cI u o i a g) → va_S A s.heap H locs → lv_has ls 3 [(0, .ref ((u 11))), (1, .int v1), (2, .int v2)] → W p l e ({ frames := 1, cells := 0, slots := 0, locals := 21 } : Room) s m args below meth c H locs 0 0 (MQ below (va_Qv xV (xB dC dI cI u o g i2 a2 A) A) args s 0 0 A) (F0 m 94 ls []) := by
  have htt : ∀ w ∈ tw_T, w.before _ s = true := fun w h => hts w (List.mem_cons_of_mem _ h)
  intro H locs ls hP hD hS hl
  rw [m_Machine_leave_b94] at hm
  refine lv_aload_n hx hb d_Machine_leave_94 rfl (lv_at hl 0 rfl) ?_
  refine va_get (D := (dC, dI)) (ci := 11) (v := .ref ((u 9))) (C := R_Machine) (T := F_Machine) (N := 9) hx hb htt iw_Machine hown hK hP 11 xo_11 rfl 2 (Nat.le_of_ble_eq_true rfl) (htt _ lk_Machine_22) (fun _ h9 => h9) xg_11_2 d_Machine_leave_95 ?_
  refine lv_aload_n hx hb d_Machine_leave_98 rfl (lv_at hl 0 rfl) ?_
  refine va_get (D := (dC, dI)) (ci := 11) (v := .ref ((u 8))) (C := R_Machine) (T := F_Machine) (N := 9) hx hb htt iw_Machine hown hK hP 11 xo_11 rfl 1 (Nat.le_of_ble_eq_true rfl) (htt _ lk_Machine_18) (fun _ h9 => h9) xg_11_1 d_Machine_leave_99 ?_
  refine va_get (D := (dC, dI)) (ci := 8) (v := .ref ((u 54))) (C := R_Line) (T := F_Line) (N := 18) hx hb htt iw_Line hown hK hP 8 xo_8 rfl 15 (Nat.le_of_ble_eq_true rfl) (htt _ lk_Machine_151) (fun _ h9 => h9) xg_8_15 d_Machine_leave_102 ?_
  refine lv_iload_n hx hb d_Machine_leave_105 rfl (lv_at hl 2 rfl) ?_
  obtain ⟨h_1, hm⟩ := ck_some hm
  refine va_iald hx hb hK hP 56 0 twA_44 rfl h_1 d_Machine_leave_106 ?_
  refine lv_topi (fun x_2 ex_2 => ?_)
  replace hm := ob1_at ex_2 hm
  refine va_put (D := (dC, dI)) (ci := 9) (v := .int x_2) (ty := .int) (C := R_Waiting) (T := F_Waiting) (N := 11) hx hb htt iw_Waiting t_Waiting t_Waiting_ok n_Waiting hown hK hP hD hS 9 xo_9 rfl 7 (Nat.le_of_ble_eq_true rfl) (htt _ lk_Machine_42) (fun _ h9 => h9) rfl (by decide +kernel) rfl rfl xl_9_7 d_Machine_leave_107 (fun H locs hP hD hS => ?_)
  obtain ⟨i_3, ei_3⟩ : ∃ y9 : Nat → Int32, y9 = upd i 42 x_2 := ⟨_, rfl⟩
  replace hm := ob1_at ei_3 hm
  obtain ⟨hP, hD⟩ := xw_42 ei_3 hP hD
  refine lv_aload_n hx hb d_Machine_leave_110 rfl (lv_at hl 0 rfl) ?_
  refine va_get (D := (dC, dI)) (ci := 11) (v := .ref ((u 9))) (C := R_Machine) (T := F_Machine) (N := 9) hx hb htt iw_Machine hown hK hP 11 xo_11 rfl 2 (Nat.le_of_ble_eq_true rfl) (htt _ lk_Machine_22) (fun _ h9 => h9) xg_11_2 d_Machine_leave_111 ?_
  refine lv_aload_n hx hb d_Machine_leave_114 rfl (lv_at hl 0 rfl) ?_
  refine va_get (D := (dC, dI)) (ci := 11) (v := .ref ((u 8))) (C := R_Machine) (T := F_Machine) (N := 9) hx hb htt iw_Machine hown hK hP 11 xo_11 rfl 1 (Nat.le_of_ble_eq_true rfl) (htt _ lk_Machine_18) (fun _ h9 => h9) xg_11_1 d_Machine_leave_115 ?_
  refine va_get (D := (dC, dI)) (ci := 8) (v := .ref ((u 55))) (C := R_Line) (T := F_Line) (N := 18) hx hb htt iw_Line hown hK hP 8 xo_8 rfl 16 (Nat.le_of_ble_eq_true rfl) (htt _ lk_Machine_154) (fun _ h9 => h9) xg_8_16 d_Machine_leave_118 ?_
  refine lv_iload_n hx hb d_Machine_leave_121 rfl (lv_at hl 2 rfl) ?_
  obtain ⟨h_4, hm⟩ := ck_some hm
  refine va_iald hx hb hK hP 57 0 twA_45 rfl h_4 d_Machine_leave_122 ?_
  refine lv_topi (fun x_5 ex_5 => ?_)
  replace hm := ob1_at ex_5 hm
  refine va_put (D := (dC, dI)) (ci := 9) (v := .int x_5) (ty := .int) (C := R_Waiting) (T := F_Waiting) (N := 11) hx hb htt iw_Waiting t_Waiting t_Waiting_ok n_Waiting hown hK hP hD hS 9 xo_9 rfl 9 (Nat.le_of_ble_eq_true rfl) (htt _ lk_Machine_157) (fun _ h9 => h9) rfl (by decide +kernel) rfl rfl xl_9_9 d_Machine_leave_123 (fun H locs hP hD hS => ?_)
  obtain ⟨i_6, ei_6⟩ : ∃ y9 : Nat → Int32, y9 = upd i_3 43 x_5 := ⟨_, rfl⟩
  replace hm := ob1_at ei_6 hm
  obtain ⟨hP, hD⟩ := xw_43 ei_6 hP hD
  refine lv_aload_n hx hb d_Machine_leave_126 rfl (lv_at hl 0 rfl) ?_
  refine va_get (D := (dC, dI)) (ci := 11) (v := .ref ((u 8))) (C := R_Machine) (T := F_Machine) (N := 9) hx hb htt iw_Machine hown hK hP 11 xo_11 rfl 1 (Nat.le_of_ble_eq_true rfl) (htt _ lk_Machine_18) (fun _ h9 => h9) xg_11_1 d_Machine_leave_127 ?_
  refine lv_iload_n hx hb d_Machine_leave_130 rfl (lv_at hl 2 rfl) ?_
  refine va_put (D := (dC, dI)) (ci := 8) (v := .int v2) (ty := .int) (C := R_Line) (T := F_Line) (N := 18) hx hb htt iw_Line t_Line t_Line_ok n_Line hown hK hP hD hS 8 xo_8 rfl 6 (Nat.le_of_ble_eq_true rfl) (htt _ lk_Machine_130) (fun _ h9 => h9) rfl (by decide +kernel) rfl rfl xl_8_6 d_Machine_leave_131 (fun H locs hP hD hS => ?_)
  obtain ⟨i_7, ei_7⟩ : ∃ y9 : Nat → Int32, y9 = upd i_6 40 v2 := ⟨_, rfl⟩
  replace hm := ob1_at ei_7 hm
  obtain ⟨hP, hD⟩ := xw_40 ei_7 hP hD
  obtain ⟨x_8, ex_8⟩ : ∃ y9 : Int32, y9 = v2 + (-1) := ⟨_, rfl⟩
  replace hm := ob1_at ex_8 hm
  refine lv_iinc (v := x_8) (lv' := [(2, .int x_8), (0, .ref ((u 11))), (1, .int v1)]) hx hb d_Machine_leave_134 hl (k := 2) rfl (by rw [ex_8]; rfl) (by decide) rfl (fun ls hl => ?_)
  refine lv_goto (tgt := 10) hx hb d_Machine_leave_137 (by decide) ?_
  exact Hrc_10 _ _ _ _ hm _ _ _ hP hD hS (lv_sub hl [1, 2, 0] rfl)
def m_Machine_leave_b10 (n : Nat) (g : Nat → Nat) : Nat → (Nat → Int32) → (Nat → Nat → Int32) → Int32 → Int32 → Option ((Nat → Int32) × (Nat → Nat → Int32) × Int32)
  | 0, _, _, _, _ => none
  | f + 1, i, a, v1, v2 => if v2 < v1 then some (i, a, (0 : Int32)) else if v2 < ((0 : Int32)) then some (i, a, (0 : Int32)) else ck v2 150 (if ((a 37 v2.toNatClampNeg)) = ((7 : Int32)) then ck v2 150 (ob1 (a 43 v2.toNatClampNeg : Int32) (fun x_15 => ob1 (upd i 17 x_15 : Nat → Int32) (fun i_16 => m_Machine_leave_b94 n g (m_Machine_leave_b10 n g f) i_16 a v1 v2))) else ck v2 150 (if ((a 37 v2.toNatClampNeg)) = ((1 : Int32)) then ck v2 150 (ob (m_Names_dropLocals n g i a (a 46 v2.toNatClampNeg)) (fun i_9 a_10 r_11 => ob1 ((i_9 41) - 1 : Int32) (fun x_12 => ob1 (upd i_9 41 x_12 : Nat → Int32) (fun i_13 => m_Machine_leave_b94 n g (m_Machine_leave_b10 n g f) i_13 a_10 v1 v2)))) else m_Machine_leave_b94 n g (m_Machine_leave_b10 n g f) i a v1 v2))
set_option maxHeartbeats 4000000 in
set_option maxRecDepth 100000 in
theorem lb_Machine_leave_10 (l : Launch) (dC : Nat → ClassId) (dI : Nat → Nat → Nat) (cI : ClassId) (adK adV adA u o g : Nat → Nat) (n : Nat) {p : Program} {e : Env} {s : State} {m : MethodId} {args : Array Value} {below : List Frame} {meth : Method} {c : Code} {A : Nat → Prop} (hx : p.tables.exec = Jvm.exec) (hb : c.code = b_Machine_leave) (hml : c.maxLocals = 3) (hown : s.vm.findClass R_Machine = some m.cls) (hts : ∀ w ∈ w_Machine_leave, w.before args s = true) (hK : va_K (dC, dI) classes [(cI, .int)] s) (hE : tw_E adK adV adA A s s.heap) (hA : ∀ q : Nat, s.heap.size ≤ q → A q) (hr : meth.sig.returnType = none) (hlocks : meth.locks = false) {i2 : Nat → Int32} {a2 : Nat → Nat → Int32} {r2 : Int32} : ∀ (f : Nat) (i : Nat → Int32) (a : Nat → Nat → Int32) (v1 : Int32) (v2 : Int32), m_Machine_leave_b10 n g f i a v1 v2 = some (i2, a2, r2) → ∀ (H : Heap) (locs : List Loc) (ls : Array Slot), va_P (dC, dI) classes (TW cI u o i a g) H → va_D A (TW cI u o i a g) → va_S A s.heap H locs → lv_has ls 3 [(0, .ref ((u 11))), (1, .int v1), (2, .int v2)] → W p l e ({ frames := 1, cells := 0, slots := 0, locals := 21 } : Room) s m args below meth c H locs 0 0 (MQ below (va_Qv xV (xB dC dI cI u o g i2 a2 A) A) args s 0 0 A) (F0 m 10 ls []) := by
  have htt : ∀ w ∈ tw_T, w.before _ s = true := fun w h => hts w (List.mem_cons_of_mem _ h)
  intro f
  induction f with
  | zero =>
    intro i a v1 v2 hm
    rw [m_Machine_leave_b10] at hm
    cases hm
  | succ f ih =>
    intro i a v1 v2 hm H locs ls hP hD hS hl
    rw [m_Machine_leave_b10] at hm
    refine lv_iload_n hx hb d_Machine_leave_10 rfl (lv_at hl 2 rfl) ?_
    refine lv_iload_n hx hb d_Machine_leave_11 rfl (lv_at hl 1 rfl) ?_
    refine lv_icmp_lt (tgt := 140) hx hb d_Machine_leave_12 (by decide) (fun c_1 => ?_) (fun c_1 => ?_)
    · replace hm := if_t c_1 hm
      obtain ⟨e1i, e1a, e3⟩ := re3 hm
      obtain ⟨hP, hD⟩ := x_eq e1i e1a hP hD
      exact W.vret hx hb hr (fun t9 ht hW => ⟨⟨(), rfl, trivial, by rw [ht]; exact hP, hD⟩, hS.F ht⟩) hS.2.2 d_Machine_leave_140
    · replace hm := if_f c_1 hm
      refine lv_iload_n hx hb d_Machine_leave_15 rfl (lv_at hl 2 rfl) ?_
      refine lv_if_lt (tgt := 140) hx hb d_Machine_leave_16 (by decide) (fun c_2 => ?_) (fun c_2 => ?_)
      · replace hm := if_t c_2 hm
        obtain ⟨e1i, e1a, e3⟩ := re3 hm
        obtain ⟨hP, hD⟩ := x_eq e1i e1a hP hD
        exact W.vret hx hb hr (fun t9 ht hW => ⟨⟨(), rfl, trivial, by rw [ht]; exact hP, hD⟩, hS.F ht⟩) hS.2.2 d_Machine_leave_140
      · replace hm := if_f c_2 hm
        refine lv_aload_n hx hb d_Machine_leave_19 rfl (lv_at hl 0 rfl) ?_
        refine va_get (D := (dC, dI)) (ci := 11) (v := .ref ((u 8))) (C := R_Machine) (T := F_Machine) (N := 9) hx hb htt iw_Machine hown hK hP 11 xo_11 rfl 1 (Nat.le_of_ble_eq_true rfl) (htt _ lk_Machine_18) (fun _ h9 => h9) xg_11_1 d_Machine_leave_20 ?_
        refine va_get (D := (dC, dI)) (ci := 8) (v := .ref ((u 47))) (C := R_Line) (T := F_Line) (N := 18) hx hb htt iw_Line hown hK hP 8 xo_8 rfl 8 (Nat.le_of_ble_eq_true rfl) (htt _ lk_Machine_133) (fun _ h9 => h9) xg_8_8 d_Machine_leave_23 ?_
        refine lv_iload_n hx hb d_Machine_leave_26 rfl (lv_at hl 2 rfl) ?_
        obtain ⟨h_3, hm⟩ := ck_some hm
        refine va_iald hx hb hK hP 49 0 twA_37 rfl h_3 d_Machine_leave_27 ?_
        refine lv_bipush (v := 7) hx hb d_Machine_leave_28 (by decide) ?_
        refine lv_icmp_ne (tgt := 52) hx hb d_Machine_leave_30 (by decide) (fun c_4 => ?_) (fun c_4 => ?_)
        · replace hm := if_f c_4 hm
          refine lv_aload_n hx hb d_Machine_leave_52 rfl (lv_at hl 0 rfl) ?_
          refine va_get (D := (dC, dI)) (ci := 11) (v := .ref ((u 8))) (C := R_Machine) (T := F_Machine) (N := 9) hx hb htt iw_Machine hown hK hP 11 xo_11 rfl 1 (Nat.le_of_ble_eq_true rfl) (htt _ lk_Machine_18) (fun _ h9 => h9) xg_11_1 d_Machine_leave_53 ?_
          refine va_get (D := (dC, dI)) (ci := 8) (v := .ref ((u 47))) (C := R_Line) (T := F_Line) (N := 18) hx hb htt iw_Line hown hK hP 8 xo_8 rfl 8 (Nat.le_of_ble_eq_true rfl) (htt _ lk_Machine_133) (fun _ h9 => h9) xg_8_8 d_Machine_leave_56 ?_
          refine lv_iload_n hx hb d_Machine_leave_59 rfl (lv_at hl 2 rfl) ?_
          obtain ⟨h_5, hm⟩ := ck_some hm
          refine va_iald hx hb hK hP 49 0 twA_37 rfl h_5 d_Machine_leave_60 ?_
          refine lv_iconst (v := 1) hx hb d_Machine_leave_61 (by decide) ?_
          refine lv_icmp_ne (tgt := 94) hx hb d_Machine_leave_62 (by decide) (fun c_6 => ?_) (fun c_6 => ?_)
          · replace hm := if_f c_6 hm
            exact lb_Machine_leave_94 l dC dI cI adK adV adA u o g n hx hb hml hown hts hK hE hA hr hlocks (m_Machine_leave_b10 n g f) ih _ _ _ _ hm _ _ _ hP hD hS (lv_sub hl [0, 1, 2] rfl)
          · replace hm := if_t c_6 hm
            refine lv_aload_n hx hb d_Machine_leave_65 rfl (lv_at hl 0 rfl) ?_
            refine va_get (D := (dC, dI)) (ci := 11) (v := .ref ((u 3))) (C := R_Machine) (T := F_Machine) (N := 9) hx hb htt iw_Machine hown hK hP 11 xo_11 rfl 3 (Nat.le_of_ble_eq_true rfl) (htt _ lk_Machine_26) (fun _ h9 => h9) xg_11_3 d_Machine_leave_66 ?_
            refine lv_aload_n hx hb d_Machine_leave_69 rfl (lv_at hl 0 rfl) ?_
            refine va_get (D := (dC, dI)) (ci := 11) (v := .ref ((u 8))) (C := R_Machine) (T := F_Machine) (N := 9) hx hb htt iw_Machine hown hK hP 11 xo_11 rfl 1 (Nat.le_of_ble_eq_true rfl) (htt _ lk_Machine_18) (fun _ h9 => h9) xg_11_1 d_Machine_leave_70 ?_
            refine va_get (D := (dC, dI)) (ci := 8) (v := .ref ((u 56))) (C := R_Line) (T := F_Line) (N := 18) hx hb htt iw_Line hown hK hP 8 xo_8 rfl 17 (Nat.le_of_ble_eq_true rfl) (htt _ lk_Machine_145) (fun _ h9 => h9) xg_8_17 d_Machine_leave_73 ?_
            refine lv_iload_n hx hb d_Machine_leave_76 rfl (lv_at hl 2 rfl) ?_
            obtain ⟨h_7, hm⟩ := ck_some hm
            refine va_iald hx hb hK hP 58 0 twA_46 rfl h_7 d_Machine_leave_77 ?_
            obtain ⟨i_9, a_10, r_11, h_8, hm⟩ := ob_some hm
            have hFc := x_free hD hS hA
            refine va_callv (va_runV (As := [.int (a 46 v2.toNatClampNeg)]) (rest := []) ⟨hx, hb, hml, hown, hts⟩ (x_Names_dropLocals l dC dI cI adK adV adA u o g H.size n h_8) (cwV 1 hts (tw_GV tw_cons cw_Names_dropLocals lk_Machine_52 in_Names_dropLocals sel_Names_dropLocals ini_Names) rfl rfl rfl ⟨rfl, hd_Names_dropLocals⟩ ⟨Nat.le_of_ble_eq_true rfl, Nat.le_of_ble_eq_true rfl⟩) (xpV hK hP hD hS hE hFc xo_3 rfl) rfl rfl hl.1 rfl (lv_room (Nat.le_of_ble_eq_true rfl)) d_Machine_leave_78 ⟨Nat.le_of_ble_eq_true rfl, Nat.le_of_ble_eq_true rfl⟩) hS (fun q _ h => hFc q h) hFc (fun u9 t9 H locs ht hvm e9 hB hz1 hk1 hS => ?_)
            obtain ⟨hP, hD⟩ := x_aft hB ht hFc
            clear hFc hk1 hz1 hvm hB ht
            refine lv_aload_n hx hb d_Machine_leave_81 rfl (lv_at hl 0 rfl) ?_
            refine va_get (D := (dC, dI)) (ci := 11) (v := .ref ((u 8))) (C := R_Machine) (T := F_Machine) (N := 9) hx hb htt iw_Machine hown hK hP 11 xo_11 rfl 1 (Nat.le_of_ble_eq_true rfl) (htt _ lk_Machine_18) (fun _ h9 => h9) xg_11_1 d_Machine_leave_82 ?_
            refine lv_dup hx hb d_Machine_leave_85 rfl ?_
            refine va_get (D := (dC, dI)) (ci := 8) (v := .int (i_9 41)) (C := R_Line) (T := F_Line) (N := 18) hx hb htt iw_Line hown hK hP 8 xo_8 rfl 7 (Nat.le_of_ble_eq_true rfl) (htt _ lk_Machine_148) (fun _ h9 => h9) xg_8_7 d_Machine_leave_86 ?_
            refine lv_iconst (v := 1) hx hb d_Machine_leave_89 (by decide) ?_
            refine lv_isub hx hb d_Machine_leave_90 ?_
            refine lv_topi (fun x_12 ex_12 => ?_)
            replace hm := ob1_at ex_12 hm
            refine va_put (D := (dC, dI)) (ci := 8) (v := .int x_12) (ty := .int) (C := R_Line) (T := F_Line) (N := 18) hx hb htt iw_Line t_Line t_Line_ok n_Line hown hK hP hD hS 8 xo_8 rfl 7 (Nat.le_of_ble_eq_true rfl) (htt _ lk_Machine_148) (fun _ h9 => h9) rfl (by decide +kernel) rfl rfl xl_8_7 d_Machine_leave_91 (fun H locs hP hD hS => ?_)
            obtain ⟨i_13, ei_13⟩ : ∃ y9 : Nat → Int32, y9 = upd i_9 41 x_12 := ⟨_, rfl⟩
            replace hm := ob1_at ei_13 hm
            obtain ⟨hP, hD⟩ := xw_41 ei_13 hP hD
            exact lb_Machine_leave_94 l dC dI cI adK adV adA u o g n hx hb hml hown hts hK hE hA hr hlocks (m_Machine_leave_b10 n g f) ih _ _ _ _ hm _ _ _ hP hD hS (lv_sub hl [0, 1, 2] rfl)
        · replace hm := if_t c_4 hm
          refine lv_aload_n hx hb d_Machine_leave_33 rfl (lv_at hl 0 rfl) ?_
          refine va_get (D := (dC, dI)) (ci := 11) (v := .ref ((u 5))) (C := R_Machine) (T := F_Machine) (N := 9) hx hb htt iw_Machine hown hK hP 11 xo_11 rfl 5 (Nat.le_of_ble_eq_true rfl) (htt _ lk_Machine_34) (fun _ h9 => h9) xg_11_5 d_Machine_leave_34 ?_
          refine lv_aload_n hx hb d_Machine_leave_37 rfl (lv_at hl 0 rfl) ?_
          refine va_get (D := (dC, dI)) (ci := 11) (v := .ref ((u 8))) (C := R_Machine) (T := F_Machine) (N := 9) hx hb htt iw_Machine hown hK hP 11 xo_11 rfl 1 (Nat.le_of_ble_eq_true rfl) (htt _ lk_Machine_18) (fun _ h9 => h9) xg_11_1 d_Machine_leave_38 ?_
          refine va_get (D := (dC, dI)) (ci := 8) (v := .ref ((u 53))) (C := R_Line) (T := F_Line) (N := 18) hx hb htt iw_Line hown hK hP 8 xo_8 rfl 14 (Nat.le_of_ble_eq_true rfl) (htt _ lk_Machine_137) (fun _ h9 => h9) xg_8_14 d_Machine_leave_41 ?_
          refine lv_iload_n hx hb d_Machine_leave_44 rfl (lv_at hl 2 rfl) ?_
          obtain ⟨h_14, hm⟩ := ck_some hm
          refine va_iald hx hb hK hP 55 0 twA_43 rfl h_14 d_Machine_leave_45 ?_
          refine lv_topi (fun x_15 ex_15 => ?_)
          replace hm := ob1_at ex_15 hm
          refine va_put (D := (dC, dI)) (ci := 5) (v := .int x_15) (ty := .int) (C := R_Turtles) (T := F_Turtles) (N := 8) hx hb htt iw_Turtles t_Turtles t_Turtles_ok n_Turtles hown hK hP hD hS 5 xo_5 rfl 2 (Nat.le_of_ble_eq_true rfl) (htt _ lk_Machine_140) (fun _ h9 => h9) rfl (by decide +kernel) rfl rfl xl_5_2 d_Machine_leave_46 (fun H locs hP hD hS => ?_)
          obtain ⟨i_16, ei_16⟩ : ∃ y9 : Nat → Int32, y9 = upd i 17 x_15 := ⟨_, rfl⟩
          replace hm := ob1_at ei_16 hm
          obtain ⟨hP, hD⟩ := xw_17 ei_16 hP hD
          refine lv_goto (tgt := 94) hx hb d_Machine_leave_49 (by decide) ?_
          exact lb_Machine_leave_94 l dC dI cI adK adV adA u o g n hx hb hml hown hts hK hE hA hr hlocks (m_Machine_leave_b10 n g f) ih _ _ _ _ hm _ _ _ hP hD hS (lv_sub hl [0, 1, 2] rfl)
def m_Machine_leave (n : Nat) (g : Nat → Nat) (i : Nat → Int32) (a : Nat → Nat → Int32) (v1 : Int32) : Option ((Nat → Int32) × (Nat → Nat → Int32) × Int32) := ob1 ((i 40) - 1 : Int32) (fun x_1 => m_Machine_leave_b10 n g n i a v1 x_1)
set_option maxHeartbeats 4000000 in
set_option maxRecDepth 100000 in
theorem x_Machine_leave (l : Launch) (dC : Nat → ClassId) (dI : Nat → Nat → Nat) (cI : ClassId) (adK adV adA u o g : Nat → Nat) (sz : Nat) (n : Nat) {i : Nat → Int32} {a : Nat → Nat → Int32} {v1 : Int32} {i2 : Nat → Int32} {a2 : Nat → Nat → Int32} {r2 : Int32} (hm : m_Machine_leave n g i a v1 = some (i2, a2, r2)) : Met l y_Machine_leave w_Machine_leave ({ frames := 1, cells := 0, slots := 0, locals := 21 } : Room) (va_Pc [.ref ((u 11)), .int v1] (xE dC dI cI adK adV adA u o g i a sz)) (va_Qv xV (xB dC dI cI u o g i2 a2 (va_A (TW cI u o i a g) sz)) (va_A (TW cI u o i a g) sz)) 0 0 ((va_A (TW cI u o i a g) sz)) := by
  refine Met.ofW (cc := b_Machine_leave) (maxL := 3) (ret := none) (by decide) rfl ?_
  intro p e s m args below meth c s₁ B hml hv
  obtain ⟨rfl, hsz, hP, hK, hE, hD0⟩ := hv
  have hx := B.exec
  have hb := B.bytes
  have hr := B.returns
  have hts := atoms_spec (ws := w_Machine_leave) B.pre
  have htt : ∀ w ∈ tw_T, w.before _ s = true := fun w h => hts w (List.mem_cons_of_mem _ h)
  have hown : s.vm.findClass R_Machine = some m.cls := findClass_of_methodNamed B.named
  have hlocks := B.notSynchronized
  subst hsz
  have hD := hD0.self (sz := s.heap.size)
  generalize hAe : (va_A (TW cI u o i a g) s.heap.size) = A at hD hE ⊢
  have hA : ∀ q : Nat, s.heap.size ≤ q → A q := fun q h => by rw [← hAe]; exact Or.inr h
  have hS : va_S A s.heap s.heap [] := va_S.rf
  have hl := lv_entry ([.ref ((u 11)), .int v1]) (n := 3) (Nat.le_of_ble_eq_true rfl)
  rw [lg_entry_eq]
  generalize (lg_sl ([.ref ((u 11)), .int v1]) ++ List.replicate (3 - (lg_sl ([.ref ((u 11)), .int v1])).length) Slot.unset).toArray = ls at hl ⊢
  have hl : lv_has ls 3 [(0, .ref ((u 11))), (1, .int v1)] := hl
  rw [m_Machine_leave] at hm
  refine lv_aload_n hx hb d_Machine_leave_0 rfl (lv_at hl 0 rfl) ?_
  refine va_get (D := (dC, dI)) (ci := 11) (v := .ref ((u 8))) (C := R_Machine) (T := F_Machine) (N := 9) hx hb htt iw_Machine hown hK hP 11 xo_11 rfl 1 (Nat.le_of_ble_eq_true rfl) (htt _ lk_Machine_18) (fun _ h9 => h9) xg_11_1 d_Machine_leave_1 ?_
  refine va_get (D := (dC, dI)) (ci := 8) (v := .int (i 40)) (C := R_Line) (T := F_Line) (N := 18) hx hb htt iw_Line hown hK hP 8 xo_8 rfl 6 (Nat.le_of_ble_eq_true rfl) (htt _ lk_Machine_130) (fun _ h9 => h9) xg_8_6 d_Machine_leave_4 ?_
  refine lv_iconst (v := 1) hx hb d_Machine_leave_7 (by decide) ?_
  refine lv_isub hx hb d_Machine_leave_8 ?_
  refine lv_topi (fun x_1 ex_1 => ?_)
  replace hm := ob1_at ex_1 hm
  refine lv_istore_n (lv' := [(2, .int x_1), (0, .ref ((u 11))), (1, .int v1)]) hx hb d_Machine_leave_9 rfl hl (by decide) rfl (fun ls hl => ?_)
  exact lb_Machine_leave_10 l dC dI cI adK adV adA u o g n hx hb hml hown hts hK hE hA hr hlocks n _ _ _ _ hm _ _ _ hP hD hS (lv_sub hl [1, 2, 0] rfl)

def m_Line_newestCatch_b41 (n : Nat) (g : Nat → Nat) (i : Nat → Int32) (a : Nat → Nat → Int32) (rc_7 : Int32 → Int32 → Option (Int32)) (v1 : Int32) (v2 : Int32) : Option (Int32) := ob1 (v2 + (-1) : Int32) (fun x_1 => rc_7 v1 x_1)
set_option maxHeartbeats 4000000 in
set_option maxRecDepth 100000 in
theorem lb_Line_newestCatch_41 (l : Launch) (dC : Nat → ClassId) (dI : Nat → Nat → Nat) (cI : ClassId) (adK adV adA u o g : Nat → Nat) (n : Nat) {p : Program} {e : Env} {s : State} {m : MethodId} {args : Array Value} {below : List Frame} {meth : Method} {c : Code} {A : Nat → Prop} (hx : p.tables.exec = Jvm.exec) (hb : c.code = b_Line_newestCatch) (hml : c.maxLocals = 3) (hown : s.vm.findClass R_Line = some m.cls) (hts : ∀ w ∈ w_Line_newestCatch, w.before args s = true) (hK : va_K (dC, dI) classes [(cI, .int)] s) (hE : tw_E adK adV adA A s s.heap) (hA : ∀ q : Nat, s.heap.size ≤ q → A q) (hr : meth.sig.returnType = (some .int)) (hlocks : meth.locks = false) {i : Nat → Int32} {a : Nat → Nat → Int32} {r2 : Int32} (rc_7 : Int32 → Int32 → Option (Int32)) (Hrc_7 : ∀ (v1 : Int32) (v2 : Int32), rc_7 v1 v2 = some r2 → ∀ (H : Heap) (locs : List Loc) (ls : Array Slot), va_P (dC, dI) classes (TW cI u o i a g) H → va_S A s.heap H locs → lv_has ls 3 [(0, .ref ((u 8))), (1, .int v1), (2, .int v2)] → W p l e ({ frames := 1, cells := 0, slots := 0, locals := 26 } : Room) s m args below meth c H locs 0 0 (MQ below (va_Qi (xR r2) xT A) args s 0 0 A) (F0 m 7 ls [])) (v1 : Int32) (v2 : Int32) (hm : m_Line_newestCatch_b41 n g i a rc_7 v1 v2 = some r2) : ∀ (H : Heap) (locs : List Loc) (ls : Array Slot), va_P (dC, dI) classes (TW cI u o i a g) H → va_S A s.heap H locs → lv_has ls 3 [(0, .ref ((u 8))), (1, .int v1), (2, .int v2)] → W p l e ({ frames := 1, cells := 0, slots := 0, locals := 26 } : Room) s m args below meth c H locs 0 0 (MQ below (va_Qi (xR r2) xT A) args s 0 0 A) (F0 m 41 ls []) := by
  have htt : ∀ w ∈ tw_T, w.before _ s = true := fun w h => hts w (List.mem_cons_of_mem _ h)
  intro H locs ls hP hS hl
  rw [m_Line_newestCatch_b41] at hm
  obtain ⟨x_1, ex_1⟩ : ∃ y9 : Int32, y9 = v2 + (-1) := ⟨_, rfl⟩
  replace hm := ob1_at ex_1 hm
  refine lv_iinc (v := x_1) (lv' := [(2, .int x_1), (0, .ref ((u 8))), (1, .int v1)]) hx hb d_Line_newestCatch_41 hl (k := 2) rfl (by rw [ex_1]; rfl) (by decide) rfl (fun ls hl => ?_)
  refine lv_goto (tgt := 7) hx hb d_Line_newestCatch_44 (by decide) ?_
  exact Hrc_7 _ _ hm _ _ _ hP hS (lv_sub hl [1, 2, 0] rfl)
def m_Line_newestCatch_b7 (n : Nat) (g : Nat → Nat) (i : Nat → Int32) (a : Nat → Nat → Int32) : Nat → Int32 → Int32 → Option (Int32)
  | 0, _, _ => none
  | f + 1, v1, v2 => if v2 < ((0 : Int32)) then some ((-1)) else ck v2 150 (if ((a 37 v2.toNatClampNeg)) = ((8 : Int32)) then ck v2 150 (ob0 (m_Heap_sameWord n g i a (a 43 v2.toNatClampNeg) v1) (fun r_6 => if r_6 = ((0 : Int32)) then m_Line_newestCatch_b41 n g i a (m_Line_newestCatch_b7 n g i a f) v1 v2 else some v2)) else m_Line_newestCatch_b41 n g i a (m_Line_newestCatch_b7 n g i a f) v1 v2)
set_option maxHeartbeats 4000000 in
set_option maxRecDepth 100000 in
theorem lb_Line_newestCatch_7 (l : Launch) (dC : Nat → ClassId) (dI : Nat → Nat → Nat) (cI : ClassId) (adK adV adA u o g : Nat → Nat) (n : Nat) {p : Program} {e : Env} {s : State} {m : MethodId} {args : Array Value} {below : List Frame} {meth : Method} {c : Code} {A : Nat → Prop} (hx : p.tables.exec = Jvm.exec) (hb : c.code = b_Line_newestCatch) (hml : c.maxLocals = 3) (hown : s.vm.findClass R_Line = some m.cls) (hts : ∀ w ∈ w_Line_newestCatch, w.before args s = true) (hK : va_K (dC, dI) classes [(cI, .int)] s) (hE : tw_E adK adV adA A s s.heap) (hA : ∀ q : Nat, s.heap.size ≤ q → A q) (hr : meth.sig.returnType = (some .int)) (hlocks : meth.locks = false) {i : Nat → Int32} {a : Nat → Nat → Int32} {r2 : Int32} : ∀ (f : Nat) (v1 : Int32) (v2 : Int32), m_Line_newestCatch_b7 n g i a f v1 v2 = some r2 → ∀ (H : Heap) (locs : List Loc) (ls : Array Slot), va_P (dC, dI) classes (TW cI u o i a g) H → va_S A s.heap H locs → lv_has ls 3 [(0, .ref ((u 8))), (1, .int v1), (2, .int v2)] → W p l e ({ frames := 1, cells := 0, slots := 0, locals := 26 } : Room) s m args below meth c H locs 0 0 (MQ below (va_Qi (xR r2) xT A) args s 0 0 A) (F0 m 7 ls []) := by
  have htt : ∀ w ∈ tw_T, w.before _ s = true := fun w h => hts w (List.mem_cons_of_mem _ h)
  intro f
  induction f with
  | zero =>
    intro v1 v2 hm
    rw [m_Line_newestCatch_b7] at hm
    cases hm
  | succ f ih =>
    intro v1 v2 hm H locs ls hP hS hl
    rw [m_Line_newestCatch_b7] at hm
    refine lv_iload_n hx hb d_Line_newestCatch_7 rfl (lv_at hl 2 rfl) ?_
    refine lv_if_lt (tgt := 47) hx hb d_Line_newestCatch_8 (by decide) (fun c_1 => ?_) (fun c_1 => ?_)
    · replace hm := if_t c_1 hm
      refine lv_iconst (v := -1) hx hb d_Line_newestCatch_47 (by decide) ?_
      have e3 := re1 hm
      exact W.iret hx hb hr (fun t9 ht hW => ⟨⟨_, (), rfl, e3.symm, trivial⟩, hS.F ht⟩) hS.2.2 d_Line_newestCatch_48
    · replace hm := if_f c_1 hm
      refine lv_aload_n hx hb d_Line_newestCatch_11 rfl (lv_at hl 0 rfl) ?_
      refine va_get (D := (dC, dI)) (ci := 8) (v := .ref ((u 47))) (C := R_Line) (T := F_Line) (N := 18) hx hb htt iw_Line hown hK hP 8 xo_8 rfl 8 (Nat.le_of_ble_eq_true rfl) (htt _ lk_Line_9) (fun _ h9 => h9) xg_8_8 d_Line_newestCatch_12 ?_
      refine lv_iload_n hx hb d_Line_newestCatch_15 rfl (lv_at hl 2 rfl) ?_
      obtain ⟨h_2, hm⟩ := ck_some hm
      refine va_iald hx hb hK hP 49 0 twA_37 rfl h_2 d_Line_newestCatch_16 ?_
      refine lv_bipush (v := 8) hx hb d_Line_newestCatch_17 (by decide) ?_
      refine lv_icmp_ne (tgt := 41) hx hb d_Line_newestCatch_19 (by decide) (fun c_3 => ?_) (fun c_3 => ?_)
      · replace hm := if_f c_3 hm
        exact lb_Line_newestCatch_41 l dC dI cI adK adV adA u o g n hx hb hml hown hts hK hE hA hr hlocks (m_Line_newestCatch_b7 n g i a f) ih _ _ hm _ _ _ hP hS (lv_sub hl [0, 1, 2] rfl)
      · replace hm := if_t c_3 hm
        refine lv_aload_n hx hb d_Line_newestCatch_22 rfl (lv_at hl 0 rfl) ?_
        refine va_get (D := (dC, dI)) (ci := 8) (v := .ref ((u 1))) (C := R_Line) (T := F_Line) (N := 18) hx hb htt iw_Line hown hK hP 8 xo_8 rfl 0 (Nat.le_of_ble_eq_true rfl) (htt _ lk_Line_42) (fun _ h9 => h9) xg_8_0 d_Line_newestCatch_23 ?_
        refine lv_aload_n hx hb d_Line_newestCatch_26 rfl (lv_at hl 0 rfl) ?_
        refine va_get (D := (dC, dI)) (ci := 8) (v := .ref ((u 53))) (C := R_Line) (T := F_Line) (N := 18) hx hb htt iw_Line hown hK hP 8 xo_8 rfl 14 (Nat.le_of_ble_eq_true rfl) (htt _ lk_Line_30) (fun _ h9 => h9) xg_8_14 d_Line_newestCatch_27 ?_
        refine lv_iload_n hx hb d_Line_newestCatch_30 rfl (lv_at hl 2 rfl) ?_
        obtain ⟨h_4, hm⟩ := ck_some hm
        refine va_iald hx hb hK hP 55 0 twA_43 rfl h_4 d_Line_newestCatch_31 ?_
        refine lv_iload_n hx hb d_Line_newestCatch_32 rfl (lv_at hl 1 rfl) ?_
        obtain ⟨r_6, h_5, hm⟩ := ob0_some hm
        have hFc := x_free0 hS hA
        refine va_calli (va_runV (As := [.int (a 43 v2.toNatClampNeg), .int v1]) (rest := []) ⟨hx, hb, hml, hown, hts⟩ (x_Heap_sameWord l dC dI cI adK adV adA u o g H.size n h_5) (cwV 2 hts (tw_GV tw_cons cw_Heap_sameWord lk_Line_77 in_Heap_sameWord sel_Heap_sameWord ini_Heap) rfl rfl rfl ⟨rfl, hd_Heap_sameWord⟩ ⟨Nat.le_of_ble_eq_true rfl, Nat.le_of_ble_eq_true rfl⟩) (xpVr hK hP hS hE hFc xo_1 rfl) rfl rfl hl.1 rfl (lv_room (Nat.le_of_ble_eq_true rfl)) d_Line_newestCatch_33 ⟨Nat.le_of_ble_eq_true rfl, Nat.le_of_ble_eq_true rfl⟩) hS (fun q _ h => hFc q h) hFc (fun r9 u9 t9 H locs ht hvm e9 hB hz1 hk1 hS => ?_)
        have e9 : r_6 = r9 := e9
        subst e9
        replace hP := x_keep hP hk1
        clear hFc hk1 hz1 hvm hB ht
        refine lv_if_eq (tgt := 41) hx hb d_Line_newestCatch_36 (by decide) (fun c_7 => ?_) (fun c_7 => ?_)
        · replace hm := if_t c_7 hm
          exact lb_Line_newestCatch_41 l dC dI cI adK adV adA u o g n hx hb hml hown hts hK hE hA hr hlocks (m_Line_newestCatch_b7 n g i a f) ih _ _ hm _ _ _ hP hS (lv_sub hl [0, 1, 2] rfl)
        · replace hm := if_f c_7 hm
          refine lv_iload_n hx hb d_Line_newestCatch_39 rfl (lv_at hl 2 rfl) ?_
          have e3 := re1 hm
          exact W.iret hx hb hr (fun t9 ht hW => ⟨⟨_, (), rfl, e3.symm, trivial⟩, hS.F ht⟩) hS.2.2 d_Line_newestCatch_40
def m_Line_newestCatch (n : Nat) (g : Nat → Nat) (i : Nat → Int32) (a : Nat → Nat → Int32) (v1 : Int32) : Option (Int32) := ob1 ((i 40) - 1 : Int32) (fun x_1 => m_Line_newestCatch_b7 n g i a n v1 x_1)
set_option maxHeartbeats 4000000 in
set_option maxRecDepth 100000 in
theorem x_Line_newestCatch (l : Launch) (dC : Nat → ClassId) (dI : Nat → Nat → Nat) (cI : ClassId) (adK adV adA u o g : Nat → Nat) (sz : Nat) (n : Nat) {i : Nat → Int32} {a : Nat → Nat → Int32} {v1 : Int32} {r2 : Int32} (hm : m_Line_newestCatch n g i a v1 = some r2) : Met l y_Line_newestCatch w_Line_newestCatch ({ frames := 1, cells := 0, slots := 0, locals := 26 } : Room) (va_Pc [.ref ((u 8)), .int v1] (xEr dC dI cI adK adV adA u o g i a sz)) (va_Qi (xR r2) xT (xN sz)) 0 0 (xN sz) := by
  refine Met.ofW (cc := b_Line_newestCatch) (maxL := 3) (ret := (some .int)) (by decide) rfl ?_
  intro p e s m args below meth c s₁ B hml hv
  obtain ⟨rfl, hsz, hP, hK, hE⟩ := hv
  have hx := B.exec
  have hb := B.bytes
  have hr := B.returns
  have hts := atoms_spec (ws := w_Line_newestCatch) B.pre
  have htt : ∀ w ∈ tw_T, w.before _ s = true := fun w h => hts w (List.mem_cons_of_mem _ h)
  have hown : s.vm.findClass R_Line = some m.cls := findClass_of_methodNamed B.named
  have hlocks := B.notSynchronized
  subst hsz
  generalize hAe : xN s.heap.size = A at hE ⊢
  have hA : ∀ q : Nat, s.heap.size ≤ q → A q := fun q h => by rw [← hAe]; exact Or.inr h
  have hS : va_S A s.heap s.heap [] := va_S.rf
  have hl := lv_entry ([.ref ((u 8)), .int v1]) (n := 3) (Nat.le_of_ble_eq_true rfl)
  rw [lg_entry_eq]
  generalize (lg_sl ([.ref ((u 8)), .int v1]) ++ List.replicate (3 - (lg_sl ([.ref ((u 8)), .int v1])).length) Slot.unset).toArray = ls at hl ⊢
  have hl : lv_has ls 3 [(0, .ref ((u 8))), (1, .int v1)] := hl
  rw [m_Line_newestCatch] at hm
  refine lv_aload_n hx hb d_Line_newestCatch_0 rfl (lv_at hl 0 rfl) ?_
  refine va_get (D := (dC, dI)) (ci := 8) (v := .int (i 40)) (C := R_Line) (T := F_Line) (N := 18) hx hb htt iw_Line hown hK hP 8 xo_8 rfl 6 (Nat.le_of_ble_eq_true rfl) (htt _ lk_Line_62) (fun _ h9 => h9) xg_8_6 d_Line_newestCatch_1 ?_
  refine lv_iconst (v := 1) hx hb d_Line_newestCatch_4 (by decide) ?_
  refine lv_isub hx hb d_Line_newestCatch_5 ?_
  refine lv_topi (fun x_1 ex_1 => ?_)
  replace hm := ob1_at ex_1 hm
  refine lv_istore_n (lv' := [(2, .int x_1), (0, .ref ((u 8))), (1, .int v1)]) hx hb d_Line_newestCatch_6 rfl hl (by decide) rfl (fun ls hl => ?_)
  exact lb_Line_newestCatch_7 l dC dI cI adK adV adA u o g n hx hb hml hown hts hK hE hA hr hlocks n _ _ hm _ _ _ hP hS (lv_sub hl [1, 2, 0] rfl)

def m_Machine_beginTurn (n : Nat) (g : Nat → Nat) (i : Nat → Int32) (a : Nat → Nat → Int32)  : Option ((Nat → Int32) × (Nat → Nat → Int32) × Int32) := ob1 ((i 40) - 1 : Int32) (fun x_1 => if ((0 : Int32)) ≤ x_1 then ck x_1 150 (if ((a 37 x_1.toNatClampNeg)) = ((4 : Int32)) then ob (m_Machine_changeLists n g i a x_1 (9 : Int32)) (fun i_11 a_12 r_13 => some (i_11, a_12, r_13)) else ck x_1 150 (ck x_1 150 (ob1 (sv a 40 x_1.toNatClampNeg ((a 40 x_1.toNatClampNeg) + 1) : Nat → Nat → Int32) (fun a_7 => ck x_1 150 (ob1 (sv a_7 39 x_1.toNatClampNeg 0 : Nat → Nat → Int32) (fun a_9 => some (i, a_9, (-2147483584)))))))) else some (i, a, (-2147483644)))
set_option maxHeartbeats 4000000 in
set_option maxRecDepth 100000 in
theorem x_Machine_beginTurn (l : Launch) (dC : Nat → ClassId) (dI : Nat → Nat → Nat) (cI : ClassId) (adK adV adA u o g : Nat → Nat) (sz : Nat) (n : Nat) {i : Nat → Int32} {a : Nat → Nat → Int32}  {i2 : Nat → Int32} {a2 : Nat → Nat → Int32} {r2 : Int32} (hm : m_Machine_beginTurn n g i a = some (i2, a2, r2)) : Met l y_Machine_beginTurn w_Machine_beginTurn ({ frames := 1, cells := 0, slots := 0, locals := 23 } : Room) (va_Pc [.ref ((u 11))] (xE dC dI cI adK adV adA u o g i a sz)) (va_Qi (xR r2) (xB dC dI cI u o g i2 a2 (va_A (TW cI u o i a g) sz)) (va_A (TW cI u o i a g) sz)) 0 0 ((va_A (TW cI u o i a g) sz)) := by
  refine Met.ofW (cc := b_Machine_beginTurn) (maxL := 2) (ret := (some .int)) (by decide) rfl ?_
  intro p e s m args below meth c s₁ B hml hv
  obtain ⟨rfl, hsz, hP, hK, hE, hD0⟩ := hv
  have hx := B.exec
  have hb := B.bytes
  have hr := B.returns
  have hts := atoms_spec (ws := w_Machine_beginTurn) B.pre
  have htt : ∀ w ∈ tw_T, w.before _ s = true := fun w h => hts w (List.mem_cons_of_mem _ h)
  have hown : s.vm.findClass R_Machine = some m.cls := findClass_of_methodNamed B.named
  have hlocks := B.notSynchronized
  subst hsz
  have hD := hD0.self (sz := s.heap.size)
  generalize hAe : (va_A (TW cI u o i a g) s.heap.size) = A at hD hE ⊢
  have hA : ∀ q : Nat, s.heap.size ≤ q → A q := fun q h => by rw [← hAe]; exact Or.inr h
  have hS : va_S A s.heap s.heap [] := va_S.rf
  have hl := lv_entry ([.ref ((u 11))]) (n := 2) (Nat.le_of_ble_eq_true rfl)
  rw [lg_entry_eq]
  generalize (lg_sl ([.ref ((u 11))]) ++ List.replicate (2 - (lg_sl ([.ref ((u 11))])).length) Slot.unset).toArray = ls at hl ⊢
  have hl : lv_has ls 2 [(0, .ref ((u 11)))] := hl
  rw [m_Machine_beginTurn] at hm
  refine lv_aload_n hx hb d_Machine_beginTurn_0 rfl (lv_at hl 0 rfl) ?_
  refine va_get (D := (dC, dI)) (ci := 11) (v := .ref ((u 8))) (C := R_Machine) (T := F_Machine) (N := 9) hx hb htt iw_Machine hown hK hP 11 xo_11 rfl 1 (Nat.le_of_ble_eq_true rfl) (htt _ lk_Machine_18) (fun _ h9 => h9) xg_11_1 d_Machine_beginTurn_1 ?_
  refine va_get (D := (dC, dI)) (ci := 8) (v := .int (i 40)) (C := R_Line) (T := F_Line) (N := 18) hx hb htt iw_Line hown hK hP 8 xo_8 rfl 6 (Nat.le_of_ble_eq_true rfl) (htt _ lk_Machine_130) (fun _ h9 => h9) xg_8_6 d_Machine_beginTurn_4 ?_
  refine lv_iconst (v := 1) hx hb d_Machine_beginTurn_7 (by decide) ?_
  refine lv_isub hx hb d_Machine_beginTurn_8 ?_
  refine lv_topi (fun x_1 ex_1 => ?_)
  replace hm := ob1_at ex_1 hm
  refine lv_istore_n (lv' := [(1, .int x_1), (0, .ref ((u 11)))]) hx hb d_Machine_beginTurn_9 rfl hl (by decide) rfl (fun ls hl => ?_)
  refine lv_iload_n hx hb d_Machine_beginTurn_10 rfl (lv_at hl 0 rfl) ?_
  refine lv_if_ge (tgt := 17) hx hb d_Machine_beginTurn_11 (by decide) (fun c_2 => ?_) (fun c_2 => ?_)
  · replace hm := if_t c_2 hm
    refine lv_aload_n hx hb d_Machine_beginTurn_17 rfl (lv_at hl 1 rfl) ?_
    refine va_get (D := (dC, dI)) (ci := 11) (v := .ref ((u 8))) (C := R_Machine) (T := F_Machine) (N := 9) hx hb htt iw_Machine hown hK hP 11 xo_11 rfl 1 (Nat.le_of_ble_eq_true rfl) (htt _ lk_Machine_18) (fun _ h9 => h9) xg_11_1 d_Machine_beginTurn_18 ?_
    refine va_get (D := (dC, dI)) (ci := 8) (v := .ref ((u 47))) (C := R_Line) (T := F_Line) (N := 18) hx hb htt iw_Line hown hK hP 8 xo_8 rfl 8 (Nat.le_of_ble_eq_true rfl) (htt _ lk_Machine_133) (fun _ h9 => h9) xg_8_8 d_Machine_beginTurn_21 ?_
    refine lv_iload_n hx hb d_Machine_beginTurn_24 rfl (lv_at hl 0 rfl) ?_
    obtain ⟨h_3, hm⟩ := ck_some hm
    refine va_iald hx hb hK hP 49 0 twA_37 rfl h_3 d_Machine_beginTurn_25 ?_
    refine lv_iconst (v := 4) hx hb d_Machine_beginTurn_26 (by decide) ?_
    refine lv_icmp_ne (tgt := 38) hx hb d_Machine_beginTurn_27 (by decide) (fun c_4 => ?_) (fun c_4 => ?_)
    · replace hm := if_f c_4 hm
      refine lv_aload_n hx hb d_Machine_beginTurn_38 rfl (lv_at hl 1 rfl) ?_
      refine va_get (D := (dC, dI)) (ci := 11) (v := .ref ((u 8))) (C := R_Machine) (T := F_Machine) (N := 9) hx hb htt iw_Machine hown hK hP 11 xo_11 rfl 1 (Nat.le_of_ble_eq_true rfl) (htt _ lk_Machine_18) (fun _ h9 => h9) xg_11_1 d_Machine_beginTurn_39 ?_
      refine va_get (D := (dC, dI)) (ci := 8) (v := .ref ((u 50))) (C := R_Line) (T := F_Line) (N := 18) hx hb htt iw_Line hown hK hP 8 xo_8 rfl 11 (Nat.le_of_ble_eq_true rfl) (htt _ lk_Machine_255) (fun _ h9 => h9) xg_8_11 d_Machine_beginTurn_42 ?_
      refine lv_iload_n hx hb d_Machine_beginTurn_45 rfl (lv_at hl 0 rfl) ?_
      refine lv_dup2_11 hx hb d_Machine_beginTurn_46 rfl rfl ?_
      obtain ⟨h_5, hm⟩ := ck_some hm
      refine va_iald hx hb hK hP 52 0 twA_40 rfl h_5 d_Machine_beginTurn_47 ?_
      refine lv_iconst (v := 1) hx hb d_Machine_beginTurn_48 (by decide) ?_
      refine lv_iadd hx hb d_Machine_beginTurn_49 ?_
      obtain ⟨h_6, hm⟩ := ck_some hm
      refine va_iast hx hb hK hP hD hS 52 0 twA_40 rfl h_6 d_Machine_beginTurn_50 (fun H locs hP hD hS => ?_)
      obtain ⟨a_7, ea_7⟩ : ∃ y9 : Nat → Nat → Int32, y9 = sv a 40 x_1.toNatClampNeg ((a 40 x_1.toNatClampNeg) + 1) := ⟨_, rfl⟩
      replace hm := ob1_at ea_7 hm
      obtain ⟨hP, hD⟩ := xv_40 ea_7 hP hD
      refine lv_aload_n hx hb d_Machine_beginTurn_51 rfl (lv_at hl 1 rfl) ?_
      refine va_get (D := (dC, dI)) (ci := 11) (v := .ref ((u 8))) (C := R_Machine) (T := F_Machine) (N := 9) hx hb htt iw_Machine hown hK hP 11 xo_11 rfl 1 (Nat.le_of_ble_eq_true rfl) (htt _ lk_Machine_18) (fun _ h9 => h9) xg_11_1 d_Machine_beginTurn_52 ?_
      refine va_get (D := (dC, dI)) (ci := 8) (v := .ref ((u 49))) (C := R_Line) (T := F_Line) (N := 18) hx hb htt iw_Line hown hK hP 8 xo_8 rfl 10 (Nat.le_of_ble_eq_true rfl) (htt _ lk_Machine_164) (fun _ h9 => h9) xg_8_10 d_Machine_beginTurn_55 ?_
      refine lv_iload_n hx hb d_Machine_beginTurn_58 rfl (lv_at hl 0 rfl) ?_
      refine lv_iconst (v := 0) hx hb d_Machine_beginTurn_59 (by decide) ?_
      obtain ⟨h_8, hm⟩ := ck_some hm
      refine va_iast hx hb hK hP hD hS 51 0 twA_39 rfl h_8 d_Machine_beginTurn_60 (fun H locs hP hD hS => ?_)
      obtain ⟨a_9, ea_9⟩ : ∃ y9 : Nat → Nat → Int32, y9 = sv a_7 39 x_1.toNatClampNeg 0 := ⟨_, rfl⟩
      replace hm := ob1_at ea_9 hm
      obtain ⟨hP, hD⟩ := xv_39 ea_9 hP hD
      refine lv_ldc (v := (-2147483584)) hx hb hown (htt _ lk_Machine_110) d_Machine_beginTurn_61 ?_
      obtain ⟨e1i, e1a, e3⟩ := re3 hm
      obtain ⟨hP, hD⟩ := x_eq e1i e1a hP hD
      exact W.iret hx hb hr (fun t9 ht hW => ⟨⟨_, (), rfl, e3.symm, by rw [ht]; exact hP, hD⟩, hS.F ht⟩) hS.2.2 d_Machine_beginTurn_63
    · replace hm := if_t c_4 hm
      refine lv_aload_n hx hb d_Machine_beginTurn_30 rfl (lv_at hl 1 rfl) ?_
      refine lv_iload_n hx hb d_Machine_beginTurn_31 rfl (lv_at hl 0 rfl) ?_
      refine lv_bipush (v := 9) hx hb d_Machine_beginTurn_32 (by decide) ?_
      obtain ⟨i_11, a_12, r_13, h_10, hm⟩ := ob_some hm
      have hFc := x_free hD hS hA
      refine va_calli (va_runV (As := [.int x_1, .int 9]) (rest := []) ⟨hx, hb, hml, hown, hts⟩ (x_Machine_changeLists l dC dI cI adK adV adA u o g s.heap.size n h_10) (cwV 2 hts (tw_GV tw_cons cw_Machine_changeLists lk_Machine_284 in_Machine_changeLists sel_Machine_changeLists ini_Machine) rfl rfl rfl ⟨rfl, hd_Machine_changeLists⟩ ⟨Nat.le_of_ble_eq_true rfl, Nat.le_of_ble_eq_true rfl⟩) (xpV hK hP hD hS hE hFc xo_11 rfl) rfl rfl hl.1 rfl (lv_room (Nat.le_of_ble_eq_true rfl)) d_Machine_beginTurn_34 ⟨Nat.le_of_ble_eq_true rfl, Nat.le_of_ble_eq_true rfl⟩) hS (fun q _ h => hFc q h) hFc (fun r9 u9 t9 H locs ht hvm e9 hB hz1 hk1 hS => ?_)
      have e9 : r_13 = r9 := e9
      subst e9
      obtain ⟨hP, hD⟩ := x_aft hB ht hFc
      clear hFc hk1 hz1 hvm hB ht
      obtain ⟨e1i, e1a, e3⟩ := re3 hm
      obtain ⟨hP, hD⟩ := x_eq e1i e1a hP hD
      exact W.iret hx hb hr (fun t9 ht hW => ⟨⟨_, (), rfl, e3.symm, by rw [ht]; exact hP, hD⟩, hS.F ht⟩) hS.2.2 d_Machine_beginTurn_37
  · replace hm := if_f c_2 hm
    refine lv_ldc (v := (-2147483644)) hx hb hown (htt _ lk_Machine_160) d_Machine_beginTurn_14 ?_
    obtain ⟨e1i, e1a, e3⟩ := re3 hm
    obtain ⟨hP, hD⟩ := x_eq e1i e1a hP hD
    exact W.iret hx hb hr (fun t9 ht hW => ⟨⟨_, (), rfl, e3.symm, by rw [ht]; exact hP, hD⟩, hS.F ht⟩) hS.2.2 d_Machine_beginTurn_16

def m_Deeds_fits (n : Nat) (g : Nat → Nat) (i : Nat → Int32) (a : Nat → Nat → Int32) (v1 : Int32) (v2 : Int32) : Option (Int32) := if v1 = 98 then ob0 (m_Heap_isWord n v2) (fun r_3 => if r_3 = ((0 : Int32)) then some 0 else ob0 (m_Heap_sameWord n g i a v2 (i 4)) (fun r_6 => if r_6 = ((0 : Int32)) then ob0 (m_Heap_sameWord n g i a v2 (i 5)) (fun r_9 => if r_9 = ((0 : Int32)) then some 0 else some 1) else some 1)) else if v1 = 108 then ob0 (m_Heap_isList n v2) (fun r_13 => cb r_13 (some r_13)) else if v1 = 110 then ob0 (m_Heap_isNumber n v2) (fun r_17 => cb r_17 (some r_17)) else if v1 = 116 then ob0 (m_Heap_isList n v2) (fun r_21 => if r_21 = ((0 : Int32)) then some 1 else some 0) else if v1 = 119 then ob0 (m_Heap_isWord n v2) (fun r_25 => cb r_25 (some r_25)) else some 1
set_option maxHeartbeats 4000000 in
set_option maxRecDepth 100000 in
theorem x_Deeds_fits (l : Launch) (dC : Nat → ClassId) (dI : Nat → Nat → Nat) (cI : ClassId) (adK adV adA u o g : Nat → Nat) (sz : Nat) (n : Nat) {i : Nat → Int32} {a : Nat → Nat → Int32} {v1 : Int32} {v2 : Int32} {r2 : Int32} (hm : m_Deeds_fits n g i a v1 v2 = some r2) : Met l y_Deeds_fits w_Deeds_fits ({ frames := 1, cells := 0, slots := 0, locals := 26 } : Room) (va_Pc [.ref ((u 10)), .int v1, .int v2] (xEr dC dI cI adK adV adA u o g i a sz)) (va_Qi (xR r2) xT (xN sz)) 0 0 (xN sz) := by
  refine Met.ofW (cc := b_Deeds_fits) (maxL := 3) (ret := (some .boolean)) (by decide) rfl ?_
  intro p e s m args below meth c s₁ B hml hv
  obtain ⟨rfl, hsz, hP, hK, hE⟩ := hv
  have hx := B.exec
  have hb := B.bytes
  have hr := B.returns
  have hts := atoms_spec (ws := w_Deeds_fits) B.pre
  have htt : ∀ w ∈ tw_T, w.before _ s = true := fun w h => hts w (List.mem_cons_of_mem _ h)
  have hown : s.vm.findClass R_Deeds = some m.cls := findClass_of_methodNamed B.named
  have hlocks := B.notSynchronized
  subst hsz
  generalize hAe : xN s.heap.size = A at hE ⊢
  have hA : ∀ q : Nat, s.heap.size ≤ q → A q := fun q h => by rw [← hAe]; exact Or.inr h
  have hS : va_S A s.heap s.heap [] := va_S.rf
  have hl := lv_entry ([.ref ((u 10)), .int v1, .int v2]) (n := 3) (Nat.le_of_ble_eq_true rfl)
  rw [lg_entry_eq]
  generalize (lg_sl ([.ref ((u 10)), .int v1, .int v2]) ++ List.replicate (3 - (lg_sl ([.ref ((u 10)), .int v1, .int v2])).length) Slot.unset).toArray = ls at hl ⊢
  have hl : lv_has ls 3 [(0, .ref ((u 10))), (1, .int v1), (2, .int v2)] := hl
  rw [m_Deeds_fits] at hm
  refine lv_iload_n hx hb d_Deeds_fits_0 rfl (lv_at hl 1 rfl) ?_
  rcases Classical.em (v1 = 98) with c_1 | c_1
  · replace hm := if_t c_1 hm
    refine lv_lookup (x := v1) (tgt := 80) hx hb d_Deeds_fits_1 (by decide) (by rw [c_1]; try rfl) (by decide) ?_
    refine lv_iload_n hx hb d_Deeds_fits_80 rfl (lv_at hl 2 rfl) ?_
    obtain ⟨r_3, h_2, hm⟩ := ob0_some hm
    have hFc := x_free0 hS hA
    refine va_calli (va_runS (As := [.int v2]) (rest := []) ⟨hx, hb, hml, hown, hts⟩ (x_Heap_isWord l s.heap.size n h_2) (va_cwS 1 hts (tw_GS tw_cons cw_Heap_isWord lk_Deeds_78 st_Heap_isWord ini_Heap) rfl rfl rfl hd_Heap_isWord ⟨Nat.le_of_ble_eq_true rfl, Nat.le_of_ble_eq_true rfl⟩) xpS0 rfl rfl hl.1 rfl (lv_room (Nat.le_of_ble_eq_true rfl)) d_Deeds_fits_81 ⟨Nat.le_of_ble_eq_true rfl, Nat.le_of_ble_eq_true rfl⟩) hS (fun q _ h => hFc q h) hFc (fun r9 u9 t9 H locs ht hvm e9 hB hz1 hk1 hS => ?_)
    have e9 : r_3 = r9 := e9
    subst e9
    replace hP := x_keep hP hk1
    clear hFc hk1 hz1 hvm hB ht
    refine lv_if_eq (tgt := 127) hx hb d_Deeds_fits_84 (by decide) (fun c_4 => ?_) (fun c_4 => ?_)
    · replace hm := if_t c_4 hm
      refine lv_iconst (v := 0) hx hb d_Deeds_fits_127 (by decide) ?_
      have e3 := re1 hm
      exact W.zret hx hb hr (by decide) (fun t9 ht hW => ⟨⟨_, (), rfl, e3.symm, trivial⟩, hS.F ht⟩) hS.2.2 d_Deeds_fits_128
    · replace hm := if_f c_4 hm
      refine lv_aload_n hx hb d_Deeds_fits_87 rfl (lv_at hl 0 rfl) ?_
      refine va_get (D := (dC, dI)) (ci := 10) (v := .ref ((u 1))) (C := R_Deeds) (T := F_Deeds) (N := 8) hx hb htt iw_Deeds hown hK hP 10 xo_10 rfl 0 (Nat.le_of_ble_eq_true rfl) (htt _ lk_Deeds_15) (fun _ h9 => h9) xg_10_0 d_Deeds_fits_88 ?_
      refine lv_iload_n hx hb d_Deeds_fits_91 rfl (lv_at hl 2 rfl) ?_
      refine lv_aload_n hx hb d_Deeds_fits_92 rfl (lv_at hl 0 rfl) ?_
      refine va_get (D := (dC, dI)) (ci := 10) (v := .ref ((u 1))) (C := R_Deeds) (T := F_Deeds) (N := 8) hx hb htt iw_Deeds hown hK hP 10 xo_10 rfl 0 (Nat.le_of_ble_eq_true rfl) (htt _ lk_Deeds_15) (fun _ h9 => h9) xg_10_0 d_Deeds_fits_93 ?_
      refine va_get (D := (dC, dI)) (ci := 1) (v := .int (i 4)) (C := R_Heap) (T := F_Heap) (N := 12) hx hb htt iw_Heap hown hK hP 1 xo_1 rfl 1 (Nat.le_of_ble_eq_true rfl) (htt _ lk_Deeds_81) (fun _ h9 => h9) xg_1_1 d_Deeds_fits_96 ?_
      obtain ⟨r_6, h_5, hm⟩ := ob0_some hm
      have hFc := x_free0 hS hA
      refine va_calli (va_runV (As := [.int v2, .int (i 4)]) (rest := []) ⟨hx, hb, hml, hown, hts⟩ (x_Heap_sameWord l dC dI cI adK adV adA u o g H.size n h_5) (cwV 2 hts (tw_GV tw_cons cw_Heap_sameWord lk_Deeds_84 in_Heap_sameWord sel_Heap_sameWord ini_Heap) rfl rfl rfl ⟨rfl, hd_Heap_sameWord⟩ ⟨Nat.le_of_ble_eq_true rfl, Nat.le_of_ble_eq_true rfl⟩) (xpVr hK hP hS hE hFc xo_1 rfl) rfl rfl hl.1 rfl (lv_room (Nat.le_of_ble_eq_true rfl)) d_Deeds_fits_99 ⟨Nat.le_of_ble_eq_true rfl, Nat.le_of_ble_eq_true rfl⟩) hS (fun q _ h => hFc q h) hFc (fun r9 u9 t9 H locs ht hvm e9 hB hz1 hk1 hS => ?_)
      have e9 : r_6 = r9 := e9
      subst e9
      replace hP := x_keep hP hk1
      clear hFc hk1 hz1 hvm hB ht
      refine lv_if_ne (tgt := 123) hx hb d_Deeds_fits_102 (by decide) (fun c_7 => ?_) (fun c_7 => ?_)
      · replace hm := if_f c_7 hm
        refine lv_iconst (v := 1) hx hb d_Deeds_fits_123 (by decide) ?_
        refine lv_goto (tgt := 128) hx hb d_Deeds_fits_124 (by decide) ?_
        have e3 := re1 hm
        exact W.zret hx hb hr (by decide) (fun t9 ht hW => ⟨⟨_, (), rfl, e3.symm, trivial⟩, hS.F ht⟩) hS.2.2 d_Deeds_fits_128
      · replace hm := if_t c_7 hm
        refine lv_aload_n hx hb d_Deeds_fits_105 rfl (lv_at hl 0 rfl) ?_
        refine va_get (D := (dC, dI)) (ci := 10) (v := .ref ((u 1))) (C := R_Deeds) (T := F_Deeds) (N := 8) hx hb htt iw_Deeds hown hK hP 10 xo_10 rfl 0 (Nat.le_of_ble_eq_true rfl) (htt _ lk_Deeds_15) (fun _ h9 => h9) xg_10_0 d_Deeds_fits_106 ?_
        refine lv_iload_n hx hb d_Deeds_fits_109 rfl (lv_at hl 2 rfl) ?_
        refine lv_aload_n hx hb d_Deeds_fits_110 rfl (lv_at hl 0 rfl) ?_
        refine va_get (D := (dC, dI)) (ci := 10) (v := .ref ((u 1))) (C := R_Deeds) (T := F_Deeds) (N := 8) hx hb htt iw_Deeds hown hK hP 10 xo_10 rfl 0 (Nat.le_of_ble_eq_true rfl) (htt _ lk_Deeds_15) (fun _ h9 => h9) xg_10_0 d_Deeds_fits_111 ?_
        refine va_get (D := (dC, dI)) (ci := 1) (v := .int (i 5)) (C := R_Heap) (T := F_Heap) (N := 12) hx hb htt iw_Heap hown hK hP 1 xo_1 rfl 2 (Nat.le_of_ble_eq_true rfl) (htt _ lk_Deeds_87) (fun _ h9 => h9) xg_1_2 d_Deeds_fits_114 ?_
        obtain ⟨r_9, h_8, hm⟩ := ob0_some hm
        have hFc := x_free0 hS hA
        refine va_calli (va_runV (As := [.int v2, .int (i 5)]) (rest := []) ⟨hx, hb, hml, hown, hts⟩ (x_Heap_sameWord l dC dI cI adK adV adA u o g H.size n h_8) (cwV 2 hts (tw_GV tw_cons cw_Heap_sameWord lk_Deeds_84 in_Heap_sameWord sel_Heap_sameWord ini_Heap) rfl rfl rfl ⟨rfl, hd_Heap_sameWord⟩ ⟨Nat.le_of_ble_eq_true rfl, Nat.le_of_ble_eq_true rfl⟩) (xpVr hK hP hS hE hFc xo_1 rfl) rfl rfl hl.1 rfl (lv_room (Nat.le_of_ble_eq_true rfl)) d_Deeds_fits_117 ⟨Nat.le_of_ble_eq_true rfl, Nat.le_of_ble_eq_true rfl⟩) hS (fun q _ h => hFc q h) hFc (fun r9 u9 t9 H locs ht hvm e9 hB hz1 hk1 hS => ?_)
        have e9 : r_9 = r9 := e9
        subst e9
        replace hP := x_keep hP hk1
        clear hFc hk1 hz1 hvm hB ht
        refine lv_if_eq (tgt := 127) hx hb d_Deeds_fits_120 (by decide) (fun c_10 => ?_) (fun c_10 => ?_)
        · replace hm := if_t c_10 hm
          refine lv_iconst (v := 0) hx hb d_Deeds_fits_127 (by decide) ?_
          have e3 := re1 hm
          exact W.zret hx hb hr (by decide) (fun t9 ht hW => ⟨⟨_, (), rfl, e3.symm, trivial⟩, hS.F ht⟩) hS.2.2 d_Deeds_fits_128
        · replace hm := if_f c_10 hm
          refine lv_iconst (v := 1) hx hb d_Deeds_fits_123 (by decide) ?_
          refine lv_goto (tgt := 128) hx hb d_Deeds_fits_124 (by decide) ?_
          have e3 := re1 hm
          exact W.zret hx hb hr (by decide) (fun t9 ht hW => ⟨⟨_, (), rfl, e3.symm, trivial⟩, hS.F ht⟩) hS.2.2 d_Deeds_fits_128
  replace hm := if_f c_1 hm
  rcases Classical.em (v1 = 108) with c_11 | c_11
  · replace hm := if_t c_11 hm
    refine lv_lookup (x := v1) (tgt := 57) hx hb d_Deeds_fits_1 (by decide) (by rw [c_11]; try rfl) (by decide) ?_
    refine lv_iload_n hx hb d_Deeds_fits_57 rfl (lv_at hl 2 rfl) ?_
    obtain ⟨r_13, h_12, hm⟩ := ob0_some hm
    have hFc := x_free0 hS hA
    refine va_calli (va_runS (As := [.int v2]) (rest := []) ⟨hx, hb, hml, hown, hts⟩ (x_Heap_isList l s.heap.size n h_12) (va_cwS 1 hts (tw_GS tw_cons cw_Heap_isList lk_Deeds_75 st_Heap_isList ini_Heap) rfl rfl rfl hd_Heap_isList ⟨Nat.le_of_ble_eq_true rfl, Nat.le_of_ble_eq_true rfl⟩) xpS0 rfl rfl hl.1 rfl (lv_room (Nat.le_of_ble_eq_true rfl)) d_Deeds_fits_58 ⟨Nat.le_of_ble_eq_true rfl, Nat.le_of_ble_eq_true rfl⟩) hS (fun q _ h => hFc q h) hFc (fun r9 u9 t9 H locs ht hvm e9 hB hz1 hk1 hS => ?_)
    have e9 : r_13 = r9 := e9
    subst e9
    replace hP := x_keep hP hk1
    clear hFc hk1 hz1 hvm hB ht
    obtain ⟨h_14, h_14f, hm⟩ := cb_some hm
    have e3 := re1 hm
    exact W.zret hx hb hr h_14 (fun t9 ht hW => ⟨⟨_, (), rfl, e3.symm, trivial⟩, hS.F ht⟩) hS.2.2 d_Deeds_fits_61
  replace hm := if_f c_11 hm
  rcases Classical.em (v1 = 110) with c_15 | c_15
  · replace hm := if_t c_15 hm
    refine lv_lookup (x := v1) (tgt := 52) hx hb d_Deeds_fits_1 (by decide) (by rw [c_15]; try rfl) (by decide) ?_
    refine lv_iload_n hx hb d_Deeds_fits_52 rfl (lv_at hl 2 rfl) ?_
    obtain ⟨r_17, h_16, hm⟩ := ob0_some hm
    have hFc := x_free0 hS hA
    refine va_calli (va_runS (As := [.int v2]) (rest := []) ⟨hx, hb, hml, hown, hts⟩ (x_Heap_isNumber l s.heap.size n h_16) (va_cwS 1 hts (tw_GS tw_cons cw_Heap_isNumber lk_Deeds_71 st_Heap_isNumber ini_Heap) rfl rfl rfl hd_Heap_isNumber ⟨Nat.le_of_ble_eq_true rfl, Nat.le_of_ble_eq_true rfl⟩) xpS0 rfl rfl hl.1 rfl (lv_room (Nat.le_of_ble_eq_true rfl)) d_Deeds_fits_53 ⟨Nat.le_of_ble_eq_true rfl, Nat.le_of_ble_eq_true rfl⟩) hS (fun q _ h => hFc q h) hFc (fun r9 u9 t9 H locs ht hvm e9 hB hz1 hk1 hS => ?_)
    have e9 : r_17 = r9 := e9
    subst e9
    replace hP := x_keep hP hk1
    clear hFc hk1 hz1 hvm hB ht
    obtain ⟨h_18, h_18f, hm⟩ := cb_some hm
    have e3 := re1 hm
    exact W.zret hx hb hr h_18 (fun t9 ht hW => ⟨⟨_, (), rfl, e3.symm, trivial⟩, hS.F ht⟩) hS.2.2 d_Deeds_fits_56
  replace hm := if_f c_15 hm
  rcases Classical.em (v1 = 116) with c_19 | c_19
  · replace hm := if_t c_19 hm
    refine lv_lookup (x := v1) (tgt := 67) hx hb d_Deeds_fits_1 (by decide) (by rw [c_19]; try rfl) (by decide) ?_
    refine lv_iload_n hx hb d_Deeds_fits_67 rfl (lv_at hl 2 rfl) ?_
    obtain ⟨r_21, h_20, hm⟩ := ob0_some hm
    have hFc := x_free0 hS hA
    refine va_calli (va_runS (As := [.int v2]) (rest := []) ⟨hx, hb, hml, hown, hts⟩ (x_Heap_isList l s.heap.size n h_20) (va_cwS 1 hts (tw_GS tw_cons cw_Heap_isList lk_Deeds_75 st_Heap_isList ini_Heap) rfl rfl rfl hd_Heap_isList ⟨Nat.le_of_ble_eq_true rfl, Nat.le_of_ble_eq_true rfl⟩) xpS0 rfl rfl hl.1 rfl (lv_room (Nat.le_of_ble_eq_true rfl)) d_Deeds_fits_68 ⟨Nat.le_of_ble_eq_true rfl, Nat.le_of_ble_eq_true rfl⟩) hS (fun q _ h => hFc q h) hFc (fun r9 u9 t9 H locs ht hvm e9 hB hz1 hk1 hS => ?_)
    have e9 : r_21 = r9 := e9
    subst e9
    replace hP := x_keep hP hk1
    clear hFc hk1 hz1 hvm hB ht
    refine lv_if_ne (tgt := 78) hx hb d_Deeds_fits_71 (by decide) (fun c_22 => ?_) (fun c_22 => ?_)
    · replace hm := if_f c_22 hm
      refine lv_iconst (v := 0) hx hb d_Deeds_fits_78 (by decide) ?_
      have e3 := re1 hm
      exact W.zret hx hb hr (by decide) (fun t9 ht hW => ⟨⟨_, (), rfl, e3.symm, trivial⟩, hS.F ht⟩) hS.2.2 d_Deeds_fits_79
    · replace hm := if_t c_22 hm
      refine lv_iconst (v := 1) hx hb d_Deeds_fits_74 (by decide) ?_
      refine lv_goto (tgt := 79) hx hb d_Deeds_fits_75 (by decide) ?_
      have e3 := re1 hm
      exact W.zret hx hb hr (by decide) (fun t9 ht hW => ⟨⟨_, (), rfl, e3.symm, trivial⟩, hS.F ht⟩) hS.2.2 d_Deeds_fits_79
  replace hm := if_f c_19 hm
  rcases Classical.em (v1 = 119) with c_23 | c_23
  · replace hm := if_t c_23 hm
    refine lv_lookup (x := v1) (tgt := 62) hx hb d_Deeds_fits_1 (by decide) (by rw [c_23]; try rfl) (by decide) ?_
    refine lv_iload_n hx hb d_Deeds_fits_62 rfl (lv_at hl 2 rfl) ?_
    obtain ⟨r_25, h_24, hm⟩ := ob0_some hm
    have hFc := x_free0 hS hA
    refine va_calli (va_runS (As := [.int v2]) (rest := []) ⟨hx, hb, hml, hown, hts⟩ (x_Heap_isWord l s.heap.size n h_24) (va_cwS 1 hts (tw_GS tw_cons cw_Heap_isWord lk_Deeds_78 st_Heap_isWord ini_Heap) rfl rfl rfl hd_Heap_isWord ⟨Nat.le_of_ble_eq_true rfl, Nat.le_of_ble_eq_true rfl⟩) xpS0 rfl rfl hl.1 rfl (lv_room (Nat.le_of_ble_eq_true rfl)) d_Deeds_fits_63 ⟨Nat.le_of_ble_eq_true rfl, Nat.le_of_ble_eq_true rfl⟩) hS (fun q _ h => hFc q h) hFc (fun r9 u9 t9 H locs ht hvm e9 hB hz1 hk1 hS => ?_)
    have e9 : r_25 = r9 := e9
    subst e9
    replace hP := x_keep hP hk1
    clear hFc hk1 hz1 hvm hB ht
    obtain ⟨h_26, h_26f, hm⟩ := cb_some hm
    have e3 := re1 hm
    exact W.zret hx hb hr h_26 (fun t9 ht hW => ⟨⟨_, (), rfl, e3.symm, trivial⟩, hS.F ht⟩) hS.2.2 d_Deeds_fits_66
  replace hm := if_f c_23 hm
  refine lv_lookup (x := v1) (off := 128) (tgt := 129) hx hb d_Deeds_fits_1 (by decide) (by have q0 := lv_neT c_1 (show (98 : Int32).toInt = 98 from by decide); have q1 := lv_neT c_11 (show (108 : Int32).toInt = 108 from by decide); have q2 := lv_neT c_15 (show (110 : Int32).toInt = 110 from by decide); have q3 := lv_neT c_19 (show (116 : Int32).toInt = 116 from by decide); have q4 := lv_neT c_23 (show (119 : Int32).toInt = 119 from by decide); rw [show (#[(98, 79), (108, 56), (110, 51), (116, 66), (119, 61)] : Array (Int × Int)).toList = [(98, 79), (108, 56), (110, 51), (116, 66), (119, 61)] from rfl]; simp only [Op.lookupswitch.offset_cons, Op.lookupswitch.offset_nil]; rw [if_neg (by omega), if_neg (by omega), if_neg (by omega), if_neg (by omega), if_neg (by omega)]) (by decide) ?_
  refine lv_iconst (v := 1) hx hb d_Deeds_fits_129 (by decide) ?_
  have e3 := re1 hm
  exact W.zret hx hb hr (by decide) (fun t9 ht hW => ⟨⟨_, (), rfl, e3.symm, trivial⟩, hS.F ht⟩) hS.2.2 d_Deeds_fits_130

def m_Math_floorDiv (n : Nat) (v0 : Int64) (v2 : Int64) : Option (Int64) := czl v2 (ob1 (v0 / v2 : Int64) (fun x_2 => if ((0 : Int32)) ≤ ((lg_cmp (v0 ^^^ v2) 0)) then some x_2 else if ((lg_cmp (x_2 * v2) v0)) = ((0 : Int32)) then some x_2 else some (x_2 - 1)))
set_option maxHeartbeats 4000000 in
set_option maxRecDepth 100000 in
theorem x_Math_floorDiv (l : Launch) (sz : Nat) (n : Nat) {v0 : Int64} {v2 : Int64} {r2 : Int64} (hm : m_Math_floorDiv n v0 v2 = some r2) : Met l y_Math_floorDiv w_Math_floorDiv ({ frames := 0, cells := 0, slots := 0, locals := 0 } : Room) (va_Pc [.long v0, .long v2] (xE0 sz)) (va_Ql (xR r2) xT (xN sz)) 0 0 (xN sz) := by
  refine mt_ofW (cc := b_Math_floorDiv) (maxL := 6) (ret := (some .long)) (by decide +kernel) rfl ?_
  intro p e s m args below meth c s₁ B hml hv
  obtain ⟨rfl, hsz⟩ := hv
  have hx := B.exec
  have hb := B.bytes
  have hr := B.returns
  have hts := atoms_spec (ws := w_Math_floorDiv) B.pre
  have htt : ∀ w ∈ tw_T, w.before _ s = true := fun w h => hts w (List.mem_cons_of_mem _ h)
  have hown : s.vm.findClass "java/lang/Math" = some m.cls := findClass_of_methodNamed B.named
  have hlocks := B.notSynchronized
  subst hsz
  generalize hAe : xN s.heap.size = A
  have hA : ∀ q : Nat, s.heap.size ≤ q → A q := fun q h => by rw [← hAe]; exact Or.inr h
  have hS : va_S A s.heap s.heap [] := va_S.rf
  have hl := lv_entry ([.long v0, .long v2]) (n := 6) (Nat.le_of_ble_eq_true rfl)
  rw [lg_entry_eq]
  generalize (lg_sl ([.long v0, .long v2]) ++ List.replicate (6 - (lg_sl ([.long v0, .long v2])).length) Slot.unset).toArray = ls at hl ⊢
  have hl : lv_has ls 6 [(0, .long v0), (2, .long v2)] := hl
  rw [m_Math_floorDiv] at hm
  refine lv_lload_n hx hb d_Math_floorDiv_0 rfl (lv_at hl 0 rfl) ?_
  refine lv_lload_n hx hb d_Math_floorDiv_1 rfl (lv_at hl 1 rfl) ?_
  obtain ⟨h_1, hm⟩ := czl_some hm
  refine lv_ldiv hx hb d_Math_floorDiv_2 (h_1) ?_
  refine lv_topl (fun x_2 ex_2 => ?_)
  replace hm := ob1_at ex_2 hm
  refine lv_lstore (lv' := [(4, .long x_2), (0, .long v0), (2, .long v2)]) hx hb d_Math_floorDiv_3 hl (by decide) rfl (fun ls hl => ?_)
  refine lv_lload_n hx hb d_Math_floorDiv_5 rfl (lv_at hl 1 rfl) ?_
  refine lv_lload_n hx hb d_Math_floorDiv_6 rfl (lv_at hl 2 rfl) ?_
  refine lv_lxor hx hb d_Math_floorDiv_7 ?_
  refine lv_lconst (v := 0) hx hb d_Math_floorDiv_8 (by decide) ?_
  refine W.lcmp hx hb d_Math_floorDiv_9 ?_
  refine lv_if_ge (tgt := 27) hx hb d_Math_floorDiv_10 (by decide) (fun c_3 => ?_) (fun c_3 => ?_)
  · replace hm := if_t c_3 hm
    refine lv_lload hx hb d_Math_floorDiv_27 (lv_at hl 0 rfl) ?_
    have e3 := re1 hm
    exact W.lret hx hb hr (fun t9 ht hW => ⟨⟨_, (), rfl, e3.symm, trivial⟩, hS.F ht⟩) hS.2.2 d_Math_floorDiv_29
  · replace hm := if_f c_3 hm
    refine lv_lload hx hb d_Math_floorDiv_13 (lv_at hl 0 rfl) ?_
    refine lv_lload_n hx hb d_Math_floorDiv_15 rfl (lv_at hl 2 rfl) ?_
    refine lv_lmul hx hb d_Math_floorDiv_16 ?_
    refine lv_lload_n hx hb d_Math_floorDiv_17 rfl (lv_at hl 1 rfl) ?_
    refine W.lcmp hx hb d_Math_floorDiv_18 ?_
    refine lv_if_eq (tgt := 27) hx hb d_Math_floorDiv_19 (by decide) (fun c_4 => ?_) (fun c_4 => ?_)
    · replace hm := if_t c_4 hm
      refine lv_lload hx hb d_Math_floorDiv_27 (lv_at hl 0 rfl) ?_
      have e3 := re1 hm
      exact W.lret hx hb hr (fun t9 ht hW => ⟨⟨_, (), rfl, e3.symm, trivial⟩, hS.F ht⟩) hS.2.2 d_Math_floorDiv_29
    · replace hm := if_f c_4 hm
      refine lv_lload hx hb d_Math_floorDiv_22 (lv_at hl 0 rfl) ?_
      refine lv_lconst (v := 1) hx hb d_Math_floorDiv_24 (by decide) ?_
      refine lv_lsub hx hb d_Math_floorDiv_25 ?_
      have e3 := re1 hm
      exact W.lret hx hb hr (fun t9 ht hW => ⟨⟨_, (), rfl, e3.symm, trivial⟩, hS.F ht⟩) hS.2.2 d_Math_floorDiv_26

def m_Turtles_floorHalf (n : Nat) (v0 : Int64) (v2 : Int64) : Option (Int64) := ob0 (m_Turtles_floorRoot n v2) (fun r_2 => ob0 (m_Math_floorDiv n (v0 + r_2) (2 : Int64)) (fun r_4 => some r_4))
set_option maxHeartbeats 4000000 in
set_option maxRecDepth 100000 in
theorem x_Turtles_floorHalf (l : Launch) (sz : Nat) (n : Nat) {v0 : Int64} {v2 : Int64} {r2 : Int64} (hm : m_Turtles_floorHalf n v0 v2 = some r2) : Met l y_Turtles_floorHalf w_Turtles_floorHalf ({ frames := 1, cells := 0, slots := 0, locals := 27 } : Room) (va_Pc [.long v0, .long v2] (xE0 sz)) (va_Ql (xR r2) xT (xN sz)) 0 0 (xN sz) := by
  refine Met.ofW (cc := b_Turtles_floorHalf) (maxL := 4) (ret := (some .long)) (by decide) rfl ?_
  intro p e s m args below meth c s₁ B hml hv
  obtain ⟨rfl, hsz⟩ := hv
  have hx := B.exec
  have hb := B.bytes
  have hr := B.returns
  have hts := atoms_spec (ws := w_Turtles_floorHalf) B.pre
  have htt : ∀ w ∈ tw_T, w.before _ s = true := fun w h => hts w (List.mem_cons_of_mem _ h)
  have hown : s.vm.findClass R_Turtles = some m.cls := findClass_of_methodNamed B.named
  have hlocks := B.notSynchronized
  subst hsz
  generalize hAe : xN s.heap.size = A
  have hA : ∀ q : Nat, s.heap.size ≤ q → A q := fun q h => by rw [← hAe]; exact Or.inr h
  have hS : va_S A s.heap s.heap [] := va_S.rf
  have hl := lv_entry ([.long v0, .long v2]) (n := 4) (Nat.le_of_ble_eq_true rfl)
  rw [lg_entry_eq]
  generalize (lg_sl ([.long v0, .long v2]) ++ List.replicate (4 - (lg_sl ([.long v0, .long v2])).length) Slot.unset).toArray = ls at hl ⊢
  have hl : lv_has ls 4 [(0, .long v0), (2, .long v2)] := hl
  rw [m_Turtles_floorHalf] at hm
  refine lv_lload_n hx hb d_Turtles_floorHalf_0 rfl (lv_at hl 0 rfl) ?_
  refine lv_lload_n hx hb d_Turtles_floorHalf_1 rfl (lv_at hl 1 rfl) ?_
  obtain ⟨r_2, h_1, hm⟩ := ob0_some hm
  have hFc := x_free0 hS hA
  refine va_calll (va_runS (As := [.long v2]) (rest := [.long v0]) ⟨hx, hb, hml, hown, hts⟩ (x_Turtles_floorRoot l s.heap.size n h_1) (va_cwS 1 hts (tw_GS tw_cons cw_Turtles_floorRoot lk_Turtles_44 st_Turtles_floorRoot ini_Turtles) rfl rfl rfl hd_Turtles_floorRoot ⟨Nat.le_of_ble_eq_true rfl, Nat.le_of_ble_eq_true rfl⟩) xpS0 rfl rfl hl.1 rfl (lv_room (Nat.le_of_ble_eq_true rfl)) d_Turtles_floorHalf_2 ⟨Nat.le_of_ble_eq_true rfl, Nat.le_of_ble_eq_true rfl⟩) hS (fun q _ h => hFc q h) hFc (fun r9 u9 t9 H locs ht hvm e9 hB hz1 hk1 hS => ?_)
  have e9 : r_2 = r9 := e9
  subst e9
  clear hFc hk1 hz1 hvm hB ht
  refine lv_ladd hx hb d_Turtles_floorHalf_5 ?_
  refine lv_ldc2 (v := 2) hx hb hown (htt _ lk_Turtles_48) d_Turtles_floorHalf_6 ?_
  obtain ⟨r_4, h_3, hm⟩ := ob0_some hm
  have hFc := x_free0 hS hA
  refine va_calll (va_runS (As := [.long (v0 + r_2), .long 2]) (rest := []) ⟨hx, hb, hml, hown, hts⟩ (x_Math_floorDiv l H.size n h_3) (va_cwS 2 hts (tw_GS tw_cons cw_Math_floorDiv lk_Turtles_50 st_Math_floorDiv ini_Math) rfl rfl rfl hd_Math_floorDiv ⟨Nat.le_of_ble_eq_true rfl, Nat.le_of_ble_eq_true rfl⟩) xpS0 rfl rfl hl.1 rfl (lv_room (Nat.le_of_ble_eq_true rfl)) d_Turtles_floorHalf_9 ⟨Nat.le_of_ble_eq_true rfl, Nat.le_of_ble_eq_true rfl⟩) hS (fun q _ h => hFc q h) hFc (fun r9 u9 t9 H locs ht hvm e9 hB hz1 hk1 hS => ?_)
  have e9 : r_4 = r9 := e9
  subst e9
  clear hFc hk1 hz1 hvm hB ht
  have e3 := re1 hm
  exact W.lret hx hb hr (fun t9 ht hW => ⟨⟨_, (), rfl, e3.symm, trivial⟩, hS.F ht⟩) hS.2.2 d_Turtles_floorHalf_12

def m_Long_compare (n : Nat) (v0 : Int64) (v2 : Int64) : Option (Int32) := if ((0 : Int32)) ≤ ((lg_cmp v0 v2)) then if ((lg_cmp v0 v2)) = ((0 : Int32)) then some 0 else some 1 else some ((-1))
set_option maxHeartbeats 4000000 in
set_option maxRecDepth 100000 in
theorem x_Long_compare (l : Launch) (sz : Nat) (n : Nat) {v0 : Int64} {v2 : Int64} {r2 : Int32} (hm : m_Long_compare n v0 v2 = some r2) : Met l y_Long_compare w_Long_compare ({ frames := 0, cells := 0, slots := 0, locals := 0 } : Room) (va_Pc [.long v0, .long v2] (xE0 sz)) (va_Qi (xR r2) xT (xN sz)) 0 0 (xN sz) := by
  refine Met.ofW (cc := b_Long_compare) (maxL := 4) (ret := (some .int)) (by decide) rfl ?_
  intro p e s m args below meth c s₁ B hml hv
  obtain ⟨rfl, hsz⟩ := hv
  have hx := B.exec
  have hb := B.bytes
  have hr := B.returns
  have hts := atoms_spec (ws := w_Long_compare) B.pre
  have htt : ∀ w ∈ tw_T, w.before _ s = true := fun w h => hts w (List.mem_cons_of_mem _ h)
  have hown : s.vm.findClass "java/lang/Long" = some m.cls := findClass_of_methodNamed B.named
  have hlocks := B.notSynchronized
  subst hsz
  generalize hAe : xN s.heap.size = A
  have hA : ∀ q : Nat, s.heap.size ≤ q → A q := fun q h => by rw [← hAe]; exact Or.inr h
  have hS : va_S A s.heap s.heap [] := va_S.rf
  have hl := lv_entry ([.long v0, .long v2]) (n := 4) (Nat.le_of_ble_eq_true rfl)
  rw [lg_entry_eq]
  generalize (lg_sl ([.long v0, .long v2]) ++ List.replicate (4 - (lg_sl ([.long v0, .long v2])).length) Slot.unset).toArray = ls at hl ⊢
  have hl : lv_has ls 4 [(0, .long v0), (2, .long v2)] := hl
  rw [m_Long_compare] at hm
  refine lv_lload_n hx hb d_Long_compare_0 rfl (lv_at hl 0 rfl) ?_
  refine lv_lload_n hx hb d_Long_compare_1 rfl (lv_at hl 1 rfl) ?_
  refine W.lcmp hx hb d_Long_compare_2 ?_
  refine lv_if_ge (tgt := 10) hx hb d_Long_compare_3 (by decide) (fun c_1 => ?_) (fun c_1 => ?_)
  · replace hm := if_t c_1 hm
    refine lv_lload_n hx hb d_Long_compare_10 rfl (lv_at hl 0 rfl) ?_
    refine lv_lload_n hx hb d_Long_compare_11 rfl (lv_at hl 1 rfl) ?_
    refine W.lcmp hx hb d_Long_compare_12 ?_
    refine lv_if_ne (tgt := 20) hx hb d_Long_compare_13 (by decide) (fun c_2 => ?_) (fun c_2 => ?_)
    · replace hm := if_f c_2 hm
      refine lv_iconst (v := 1) hx hb d_Long_compare_20 (by decide) ?_
      have e3 := re1 hm
      exact W.iret hx hb hr (fun t9 ht hW => ⟨⟨_, (), rfl, e3.symm, trivial⟩, hS.F ht⟩) hS.2.2 d_Long_compare_21
    · replace hm := if_t c_2 hm
      refine lv_iconst (v := 0) hx hb d_Long_compare_16 (by decide) ?_
      refine lv_goto (tgt := 21) hx hb d_Long_compare_17 (by decide) ?_
      have e3 := re1 hm
      exact W.iret hx hb hr (fun t9 ht hW => ⟨⟨_, (), rfl, e3.symm, trivial⟩, hS.F ht⟩) hS.2.2 d_Long_compare_21
  · replace hm := if_f c_1 hm
    refine lv_iconst (v := -1) hx hb d_Long_compare_6 (by decide) ?_
    refine lv_goto (tgt := 21) hx hb d_Long_compare_7 (by decide) ?_
    have e3 := re1 hm
    exact W.iret hx hb hr (fun t9 ht hW => ⟨⟨_, (), rfl, e3.symm, trivial⟩, hS.F ht⟩) hS.2.2 d_Long_compare_21

def m_Turtles_sideOf (n : Nat) (v0 : Int32) (v1 : Int32) (v2 : Int32) : Option (Int32) := ob1 ((2 * v2.toInt64) - v0.toInt64 : Int64) (fun x_1 => if v1 = ((0 : Int32)) then ob0 (m_Long_compare n (0 : Int64) x_1) (fun r_7 => some r_7) else ob0 (m_Turtles_floorRoot n v1.toInt64) (fun r_4 => if ((0 : Int32)) ≤ ((lg_cmp r_4 x_1)) then some 1 else some ((-1))))
set_option maxHeartbeats 4000000 in
set_option maxRecDepth 100000 in
theorem x_Turtles_sideOf (l : Launch) (sz : Nat) (n : Nat) {v0 : Int32} {v1 : Int32} {v2 : Int32} {r2 : Int32} (hm : m_Turtles_sideOf n v0 v1 v2 = some r2) : Met l y_Turtles_sideOf w_Turtles_sideOf ({ frames := 1, cells := 0, slots := 0, locals := 27 } : Room) (va_Pc [.int v0, .int v1, .int v2] (xE0 sz)) (va_Qi (xR r2) xT (xN sz)) 0 0 (xN sz) := by
  refine Met.ofW (cc := b_Turtles_sideOf) (maxL := 5) (ret := (some .int)) (by decide) rfl ?_
  intro p e s m args below meth c s₁ B hml hv
  obtain ⟨rfl, hsz⟩ := hv
  have hx := B.exec
  have hb := B.bytes
  have hr := B.returns
  have hts := atoms_spec (ws := w_Turtles_sideOf) B.pre
  have htt : ∀ w ∈ tw_T, w.before _ s = true := fun w h => hts w (List.mem_cons_of_mem _ h)
  have hown : s.vm.findClass R_Turtles = some m.cls := findClass_of_methodNamed B.named
  have hlocks := B.notSynchronized
  subst hsz
  generalize hAe : xN s.heap.size = A
  have hA : ∀ q : Nat, s.heap.size ≤ q → A q := fun q h => by rw [← hAe]; exact Or.inr h
  have hS : va_S A s.heap s.heap [] := va_S.rf
  have hl := lv_entry ([.int v0, .int v1, .int v2]) (n := 5) (Nat.le_of_ble_eq_true rfl)
  rw [lg_entry_eq]
  generalize (lg_sl ([.int v0, .int v1, .int v2]) ++ List.replicate (5 - (lg_sl ([.int v0, .int v1, .int v2])).length) Slot.unset).toArray = ls at hl ⊢
  have hl : lv_has ls 5 [(0, .int v0), (1, .int v1), (2, .int v2)] := hl
  rw [m_Turtles_sideOf] at hm
  refine lv_ldc2 (v := 2) hx hb hown (htt _ lk_Turtles_48) d_Turtles_sideOf_0 ?_
  refine lv_iload_n hx hb d_Turtles_sideOf_3 rfl (lv_at hl 2 rfl) ?_
  refine lv_i2l hx hb d_Turtles_sideOf_4 rfl ?_
  refine lv_lmul hx hb d_Turtles_sideOf_5 ?_
  refine lv_iload_n hx hb d_Turtles_sideOf_6 rfl (lv_at hl 0 rfl) ?_
  refine lv_i2l hx hb d_Turtles_sideOf_7 rfl ?_
  refine lv_lsub hx hb d_Turtles_sideOf_8 ?_
  refine lv_topl (fun x_1 ex_1 => ?_)
  replace hm := ob1_at ex_1 hm
  refine lv_lstore_n (lv' := [(3, .long x_1), (0, .int v0), (1, .int v1), (2, .int v2)]) hx hb d_Turtles_sideOf_9 rfl hl (by decide) rfl (fun ls hl => ?_)
  refine lv_iload_n hx hb d_Turtles_sideOf_10 rfl (lv_at hl 2 rfl) ?_
  refine lv_if_ne (tgt := 20) hx hb d_Turtles_sideOf_11 (by decide) (fun c_2 => ?_) (fun c_2 => ?_)
  · replace hm := if_f c_2 hm
    refine lv_iload_n hx hb d_Turtles_sideOf_20 rfl (lv_at hl 2 rfl) ?_
    refine lv_i2l hx hb d_Turtles_sideOf_21 rfl ?_
    obtain ⟨r_4, h_3, hm⟩ := ob0_some hm
    have hFc := x_free0 hS hA
    refine va_calll (va_runS (As := [.long v1.toInt64]) (rest := []) ⟨hx, hb, hml, hown, hts⟩ (x_Turtles_floorRoot l s.heap.size n h_3) (va_cwS 1 hts (tw_GS tw_cons cw_Turtles_floorRoot lk_Turtles_44 st_Turtles_floorRoot ini_Turtles) rfl rfl rfl hd_Turtles_floorRoot ⟨Nat.le_of_ble_eq_true rfl, Nat.le_of_ble_eq_true rfl⟩) xpS0 rfl rfl hl.1 rfl (lv_room (Nat.le_of_ble_eq_true rfl)) d_Turtles_sideOf_22 ⟨Nat.le_of_ble_eq_true rfl, Nat.le_of_ble_eq_true rfl⟩) hS (fun q _ h => hFc q h) hFc (fun r9 u9 t9 H locs ht hvm e9 hB hz1 hk1 hS => ?_)
    have e9 : r_4 = r9 := e9
    subst e9
    clear hFc hk1 hz1 hvm hB ht
    refine lv_lload_n hx hb d_Turtles_sideOf_25 rfl (lv_at hl 0 rfl) ?_
    refine W.lcmp hx hb d_Turtles_sideOf_26 ?_
    refine lv_if_ge (tgt := 34) hx hb d_Turtles_sideOf_27 (by decide) (fun c_5 => ?_) (fun c_5 => ?_)
    · replace hm := if_t c_5 hm
      refine lv_iconst (v := 1) hx hb d_Turtles_sideOf_34 (by decide) ?_
      have e3 := re1 hm
      exact W.iret hx hb hr (fun t9 ht hW => ⟨⟨_, (), rfl, e3.symm, trivial⟩, hS.F ht⟩) hS.2.2 d_Turtles_sideOf_35
    · replace hm := if_f c_5 hm
      refine lv_iconst (v := -1) hx hb d_Turtles_sideOf_30 (by decide) ?_
      refine lv_goto (tgt := 35) hx hb d_Turtles_sideOf_31 (by decide) ?_
      have e3 := re1 hm
      exact W.iret hx hb hr (fun t9 ht hW => ⟨⟨_, (), rfl, e3.symm, trivial⟩, hS.F ht⟩) hS.2.2 d_Turtles_sideOf_35
  · replace hm := if_t c_2 hm
    refine lv_lconst (v := 0) hx hb d_Turtles_sideOf_14 (by decide) ?_
    refine lv_lload_n hx hb d_Turtles_sideOf_15 rfl (lv_at hl 0 rfl) ?_
    obtain ⟨r_7, h_6, hm⟩ := ob0_some hm
    have hFc := x_free0 hS hA
    refine va_calli (va_runS (As := [.long 0, .long x_1]) (rest := []) ⟨hx, hb, hml, hown, hts⟩ (x_Long_compare l s.heap.size n h_6) (va_cwS 2 hts (tw_GS tw_cons cw_Long_compare lk_Turtles_56 st_Long_compare ini_Long) rfl rfl rfl hd_Long_compare ⟨Nat.le_of_ble_eq_true rfl, Nat.le_of_ble_eq_true rfl⟩) xpS0 rfl rfl hl.1 rfl (lv_room (Nat.le_of_ble_eq_true rfl)) d_Turtles_sideOf_16 ⟨Nat.le_of_ble_eq_true rfl, Nat.le_of_ble_eq_true rfl⟩) hS (fun q _ h => hFc q h) hFc (fun r9 u9 t9 H locs ht hvm e9 hB hz1 hk1 hS => ?_)
    have e9 : r_7 = r9 := e9
    subst e9
    clear hFc hk1 hz1 hvm hB ht
    have e3 := re1 hm
    exact W.iret hx hb hr (fun t9 ht hW => ⟨⟨_, (), rfl, e3.symm, trivial⟩, hS.F ht⟩) hS.2.2 d_Turtles_sideOf_19

def m_Turtles_crossing (n : Nat) (g : Nat → Nat) (i : Nat → Int32) (a : Nat → Nat → Int32) (v1 : Int32) (v2 : Int32) (v3 : Int32) : Option (Int64) := ob1 (2 - v1 : Int32) (fun x_1 => ck x_1 4 (ck ((v1 + 1)) 4 (ob1 ((3 * (((a 22 x_1.toNatClampNeg) - (v2 * (a 22 (v1 + 1).toNatClampNeg))).toInt64)) + 3 : Int64) (fun x_4 => ck ((x_1 + 1)) 4 (ck v1 4 (ob1 ((3 * ((a 22 (x_1 + 1).toNatClampNeg).toInt64)) + (v2.toInt64 * ((2 * v3.toInt64) - ((a 22 v1.toNatClampNeg).toInt64))) : Int64) (fun x_7 => ob0 (m_Turtles_floorRoot n x_7) (fun r_9 => ob0 (m_Math_floorDiv n (x_4 + r_9) (6 : Int64)) (fun r_11 => some r_11)))))))))
set_option maxHeartbeats 4000000 in
set_option maxRecDepth 100000 in
theorem x_Turtles_crossing (l : Launch) (dC : Nat → ClassId) (dI : Nat → Nat → Nat) (cI : ClassId) (adK adV adA u o g : Nat → Nat) (sz : Nat) (n : Nat) {i : Nat → Int32} {a : Nat → Nat → Int32} {v1 : Int32} {v2 : Int32} {v3 : Int32} {r2 : Int64} (hm : m_Turtles_crossing n g i a v1 v2 v3 = some r2) : Met l y_Turtles_crossing w_Turtles_crossing ({ frames := 1, cells := 0, slots := 0, locals := 27 } : Room) (va_Pc [.ref ((u 5)), .int v1, .int v2, .int v3] (xEr dC dI cI adK adV adA u o g i a sz)) (va_Ql (xR r2) xT (xN sz)) 0 0 (xN sz) := by
  refine Met.ofW (cc := b_Turtles_crossing) (maxL := 9) (ret := (some .long)) (by decide) rfl ?_
  intro p e s m args below meth c s₁ B hml hv
  obtain ⟨rfl, hsz, hP, hK, hE⟩ := hv
  have hx := B.exec
  have hb := B.bytes
  have hr := B.returns
  have hts := atoms_spec (ws := w_Turtles_crossing) B.pre
  have htt : ∀ w ∈ tw_T, w.before _ s = true := fun w h => hts w (List.mem_cons_of_mem _ h)
  have hown : s.vm.findClass R_Turtles = some m.cls := findClass_of_methodNamed B.named
  have hlocks := B.notSynchronized
  subst hsz
  generalize hAe : xN s.heap.size = A at hE ⊢
  have hA : ∀ q : Nat, s.heap.size ≤ q → A q := fun q h => by rw [← hAe]; exact Or.inr h
  have hS : va_S A s.heap s.heap [] := va_S.rf
  have hl := lv_entry ([.ref ((u 5)), .int v1, .int v2, .int v3]) (n := 9) (Nat.le_of_ble_eq_true rfl)
  rw [lg_entry_eq]
  generalize (lg_sl ([.ref ((u 5)), .int v1, .int v2, .int v3]) ++ List.replicate (9 - (lg_sl ([.ref ((u 5)), .int v1, .int v2, .int v3])).length) Slot.unset).toArray = ls at hl ⊢
  have hl : lv_has ls 9 [(0, .ref ((u 5))), (1, .int v1), (2, .int v2), (3, .int v3)] := hl
  rw [m_Turtles_crossing] at hm
  refine lv_iconst (v := 2) hx hb d_Turtles_crossing_0 (by decide) ?_
  refine lv_iload_n hx hb d_Turtles_crossing_1 rfl (lv_at hl 1 rfl) ?_
  refine lv_isub hx hb d_Turtles_crossing_2 ?_
  refine lv_topi (fun x_1 ex_1 => ?_)
  replace hm := ob1_at ex_1 hm
  refine lv_istore (lv' := [(4, .int x_1), (0, .ref ((u 5))), (1, .int v1), (2, .int v2), (3, .int v3)]) hx hb d_Turtles_crossing_3 hl (by decide) rfl (fun ls hl => ?_)
  refine lv_ldc2 (v := 3) hx hb hown (htt _ lk_Turtles_38) d_Turtles_crossing_5 ?_
  refine lv_aload_n hx hb d_Turtles_crossing_8 rfl (lv_at hl 1 rfl) ?_
  refine va_get (D := (dC, dI)) (ci := 5) (v := .ref ((u 32))) (C := R_Turtles) (T := F_Turtles) (N := 8) hx hb htt iw_Turtles hown hK hP 5 xo_5 rfl 3 (Nat.le_of_ble_eq_true rfl) (htt _ lk_Turtles_18) (fun _ h9 => h9) xg_5_3 d_Turtles_crossing_9 ?_
  refine lv_iload hx hb d_Turtles_crossing_12 (lv_at hl 0 rfl) ?_
  obtain ⟨h_2, hm⟩ := ck_some hm
  refine va_iald hx hb hK hP 34 0 twA_22 rfl h_2 d_Turtles_crossing_14 ?_
  refine lv_iload_n hx hb d_Turtles_crossing_15 rfl (lv_at hl 3 rfl) ?_
  refine lv_aload_n hx hb d_Turtles_crossing_16 rfl (lv_at hl 1 rfl) ?_
  refine va_get (D := (dC, dI)) (ci := 5) (v := .ref ((u 32))) (C := R_Turtles) (T := F_Turtles) (N := 8) hx hb htt iw_Turtles hown hK hP 5 xo_5 rfl 3 (Nat.le_of_ble_eq_true rfl) (htt _ lk_Turtles_18) (fun _ h9 => h9) xg_5_3 d_Turtles_crossing_17 ?_
  refine lv_iload_n hx hb d_Turtles_crossing_20 rfl (lv_at hl 2 rfl) ?_
  refine lv_iconst (v := 1) hx hb d_Turtles_crossing_21 (by decide) ?_
  refine lv_iadd hx hb d_Turtles_crossing_22 ?_
  obtain ⟨h_3, hm⟩ := ck_some hm
  refine va_iald hx hb hK hP 34 0 twA_22 rfl h_3 d_Turtles_crossing_23 ?_
  refine lv_imul hx hb d_Turtles_crossing_24 ?_
  refine lv_isub hx hb d_Turtles_crossing_25 ?_
  refine lv_i2l hx hb d_Turtles_crossing_26 rfl ?_
  refine lv_lmul hx hb d_Turtles_crossing_27 ?_
  refine lv_ldc2 (v := 3) hx hb hown (htt _ lk_Turtles_38) d_Turtles_crossing_28 ?_
  refine lv_ladd hx hb d_Turtles_crossing_31 ?_
  refine lv_topl (fun x_4 ex_4 => ?_)
  replace hm := ob1_at ex_4 hm
  refine lv_lstore (lv' := [(5, .long x_4), (4, .int x_1), (0, .ref ((u 5))), (1, .int v1), (2, .int v2), (3, .int v3)]) hx hb d_Turtles_crossing_32 hl (by decide) rfl (fun ls hl => ?_)
  refine lv_ldc2 (v := 3) hx hb hown (htt _ lk_Turtles_38) d_Turtles_crossing_34 ?_
  refine lv_aload_n hx hb d_Turtles_crossing_37 rfl (lv_at hl 2 rfl) ?_
  refine va_get (D := (dC, dI)) (ci := 5) (v := .ref ((u 32))) (C := R_Turtles) (T := F_Turtles) (N := 8) hx hb htt iw_Turtles hown hK hP 5 xo_5 rfl 3 (Nat.le_of_ble_eq_true rfl) (htt _ lk_Turtles_18) (fun _ h9 => h9) xg_5_3 d_Turtles_crossing_38 ?_
  refine lv_iload hx hb d_Turtles_crossing_41 (lv_at hl 1 rfl) ?_
  refine lv_iconst (v := 1) hx hb d_Turtles_crossing_43 (by decide) ?_
  refine lv_iadd hx hb d_Turtles_crossing_44 ?_
  obtain ⟨h_5, hm⟩ := ck_some hm
  refine va_iald hx hb hK hP 34 0 twA_22 rfl h_5 d_Turtles_crossing_45 ?_
  refine lv_i2l hx hb d_Turtles_crossing_46 rfl ?_
  refine lv_lmul hx hb d_Turtles_crossing_47 ?_
  refine lv_iload_n hx hb d_Turtles_crossing_48 rfl (lv_at hl 4 rfl) ?_
  refine lv_i2l hx hb d_Turtles_crossing_49 rfl ?_
  refine lv_ldc2 (v := 2) hx hb hown (htt _ lk_Turtles_48) d_Turtles_crossing_50 ?_
  refine lv_iload_n hx hb d_Turtles_crossing_53 rfl (lv_at hl 5 rfl) ?_
  refine lv_i2l hx hb d_Turtles_crossing_54 rfl ?_
  refine lv_lmul hx hb d_Turtles_crossing_55 ?_
  refine lv_aload_n hx hb d_Turtles_crossing_56 rfl (lv_at hl 2 rfl) ?_
  refine va_get (D := (dC, dI)) (ci := 5) (v := .ref ((u 32))) (C := R_Turtles) (T := F_Turtles) (N := 8) hx hb htt iw_Turtles hown hK hP 5 xo_5 rfl 3 (Nat.le_of_ble_eq_true rfl) (htt _ lk_Turtles_18) (fun _ h9 => h9) xg_5_3 d_Turtles_crossing_57 ?_
  refine lv_iload_n hx hb d_Turtles_crossing_60 rfl (lv_at hl 3 rfl) ?_
  obtain ⟨h_6, hm⟩ := ck_some hm
  refine va_iald hx hb hK hP 34 0 twA_22 rfl h_6 d_Turtles_crossing_61 ?_
  refine lv_i2l hx hb d_Turtles_crossing_62 rfl ?_
  refine lv_lsub hx hb d_Turtles_crossing_63 ?_
  refine lv_lmul hx hb d_Turtles_crossing_64 ?_
  refine lv_ladd hx hb d_Turtles_crossing_65 ?_
  refine lv_topl (fun x_7 ex_7 => ?_)
  replace hm := ob1_at ex_7 hm
  refine lv_lstore (lv' := [(7, .long x_7), (5, .long x_4), (4, .int x_1), (0, .ref ((u 5))), (1, .int v1), (2, .int v2), (3, .int v3)]) hx hb d_Turtles_crossing_66 hl (by decide) rfl (fun ls hl => ?_)
  refine lv_lload hx hb d_Turtles_crossing_68 (lv_at hl 1 rfl) ?_
  refine lv_lload hx hb d_Turtles_crossing_70 (lv_at hl 0 rfl) ?_
  obtain ⟨r_9, h_8, hm⟩ := ob0_some hm
  have hFc := x_free0 hS hA
  refine va_calll (va_runS (As := [.long x_7]) (rest := [.long x_4]) ⟨hx, hb, hml, hown, hts⟩ (x_Turtles_floorRoot l s.heap.size n h_8) (va_cwS 1 hts (tw_GS tw_cons cw_Turtles_floorRoot lk_Turtles_44 st_Turtles_floorRoot ini_Turtles) rfl rfl rfl hd_Turtles_floorRoot ⟨Nat.le_of_ble_eq_true rfl, Nat.le_of_ble_eq_true rfl⟩) xpS0 rfl rfl hl.1 rfl (lv_room (Nat.le_of_ble_eq_true rfl)) d_Turtles_crossing_72 ⟨Nat.le_of_ble_eq_true rfl, Nat.le_of_ble_eq_true rfl⟩) hS (fun q _ h => hFc q h) hFc (fun r9 u9 t9 H locs ht hvm e9 hB hz1 hk1 hS => ?_)
  have e9 : r_9 = r9 := e9
  subst e9
  replace hP := x_keep hP hk1
  clear hFc hk1 hz1 hvm hB ht
  refine lv_ladd hx hb d_Turtles_crossing_75 ?_
  refine lv_ldc2 (v := 6) hx hb hown (htt _ lk_Turtles_113) d_Turtles_crossing_76 ?_
  obtain ⟨r_11, h_10, hm⟩ := ob0_some hm
  have hFc := x_free0 hS hA
  refine va_calll (va_runS (As := [.long (x_4 + r_9), .long 6]) (rest := []) ⟨hx, hb, hml, hown, hts⟩ (x_Math_floorDiv l H.size n h_10) (va_cwS 2 hts (tw_GS tw_cons cw_Math_floorDiv lk_Turtles_50 st_Math_floorDiv ini_Math) rfl rfl rfl hd_Math_floorDiv ⟨Nat.le_of_ble_eq_true rfl, Nat.le_of_ble_eq_true rfl⟩) xpS0 rfl rfl hl.1 rfl (lv_room (Nat.le_of_ble_eq_true rfl)) d_Turtles_crossing_79 ⟨Nat.le_of_ble_eq_true rfl, Nat.le_of_ble_eq_true rfl⟩) hS (fun q _ h => hFc q h) hFc (fun r9 u9 t9 H locs ht hvm e9 hB hz1 hk1 hS => ?_)
  have e9 : r_11 = r9 := e9
  subst e9
  replace hP := x_keep hP hk1
  clear hFc hk1 hz1 hvm hB ht
  have e3 := re1 hm
  exact W.lret hx hb hr (fun t9 ht hW => ⟨⟨_, (), rfl, e3.symm, trivial⟩, hS.F ht⟩) hS.2.2 d_Turtles_crossing_82
