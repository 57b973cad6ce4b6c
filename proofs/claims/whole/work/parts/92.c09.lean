theorem d_Machine_stopCall_0 : decode b_Machine_stopCall 0 = .ok (.aload_n 0, 1) := by decide +kernel
theorem d_Machine_stopCall_1 : decode b_Machine_stopCall 1 = .ok (.getfield 18, 3) := by decide +kernel
theorem d_Machine_stopCall_4 : decode b_Machine_stopCall 4 = .ok (.iconst 0, 1) := by decide +kernel
theorem d_Machine_stopCall_5 : decode b_Machine_stopCall 5 = .ok (.invokevirtual 401, 3) := by decide +kernel
theorem d_Machine_stopCall_8 : decode b_Machine_stopCall 8 = .ok (.istore_n 1, 1) := by decide +kernel
theorem d_Machine_stopCall_9 : decode b_Machine_stopCall 9 = .ok (.iload_n 1, 1) := by decide +kernel
theorem d_Machine_stopCall_10 : decode b_Machine_stopCall 10 = .ok (.ifCond .lt 11, 3) := by decide +kernel
theorem d_Machine_stopCall_13 : decode b_Machine_stopCall 13 = .ok (.aload_n 0, 1) := by decide +kernel
theorem d_Machine_stopCall_14 : decode b_Machine_stopCall 14 = .ok (.iload_n 1, 1) := by decide +kernel
theorem d_Machine_stopCall_15 : decode b_Machine_stopCall 15 = .ok (.ldc 114, 2) := by decide +kernel
theorem d_Machine_stopCall_17 : decode b_Machine_stopCall 17 = .ok (.invokevirtual 264, 3) := by decide +kernel
theorem d_Machine_stopCall_20 : decode b_Machine_stopCall 20 = .ok (.ireturn, 1) := by decide +kernel
theorem d_Machine_stopCall_21 : decode b_Machine_stopCall 21 = .ok (.aload_n 0, 1) := by decide +kernel
theorem d_Machine_stopCall_22 : decode b_Machine_stopCall 22 = .ok (.iconst 2, 1) := by decide +kernel
theorem d_Machine_stopCall_23 : decode b_Machine_stopCall 23 = .ok (.iconst 0, 1) := by decide +kernel
theorem d_Machine_stopCall_24 : decode b_Machine_stopCall 24 = .ok (.invokevirtual 106, 3) := by decide +kernel
theorem d_Machine_stopCall_27 : decode b_Machine_stopCall 27 = .ok (.ldc 110, 2) := by decide +kernel
theorem d_Machine_stopCall_29 : decode b_Machine_stopCall 29 = .ok (.ireturn, 1) := by decide +kernel
theorem lk_Machine_401 : Cond.methodLink "TurtleWorld$Machine" 401 ⟨"TurtleWorld$Line", "callAt", "(I)I"⟩ ∈ tw_T := tw_i7 99 (by decide +kernel) (by decide +kernel)
theorem d_Machine_leaveCall_0 : decode b_Machine_leaveCall 0 = .ok (.aload_n 0, 1) := by decide +kernel
theorem d_Machine_leaveCall_1 : decode b_Machine_leaveCall 1 = .ok (.getfield 18, 3) := by decide +kernel
theorem d_Machine_leaveCall_4 : decode b_Machine_leaveCall 4 = .ok (.iconst 0, 1) := by decide +kernel
theorem d_Machine_leaveCall_5 : decode b_Machine_leaveCall 5 = .ok (.invokevirtual 401, 3) := by decide +kernel
theorem d_Machine_leaveCall_8 : decode b_Machine_leaveCall 8 = .ok (.istore_n 2, 1) := by decide +kernel
theorem d_Machine_leaveCall_9 : decode b_Machine_leaveCall 9 = .ok (.iload_n 2, 1) := by decide +kernel
theorem d_Machine_leaveCall_10 : decode b_Machine_leaveCall 10 = .ok (.ifCond .ge 9, 3) := by decide +kernel
theorem d_Machine_leaveCall_13 : decode b_Machine_leaveCall 13 = .ok (.ldc_w 404, 3) := by decide +kernel
theorem d_Machine_leaveCall_16 : decode b_Machine_leaveCall 16 = .ok (.goto 9, 3) := by decide +kernel
theorem d_Machine_leaveCall_19 : decode b_Machine_leaveCall 19 = .ok (.aload_n 0, 1) := by decide +kernel
theorem d_Machine_leaveCall_20 : decode b_Machine_leaveCall 20 = .ok (.iload_n 2, 1) := by decide +kernel
theorem d_Machine_leaveCall_21 : decode b_Machine_leaveCall 21 = .ok (.iload_n 1, 1) := by decide +kernel
theorem d_Machine_leaveCall_22 : decode b_Machine_leaveCall 22 = .ok (.invokevirtual 264, 3) := by decide +kernel
theorem d_Machine_leaveCall_25 : decode b_Machine_leaveCall 25 = .ok (.ireturn, 1) := by decide +kernel
theorem lk_Machine_404 : Cond.constant "TurtleWorld$Machine" 404 (-2147483636) ∈ tw_T := tw_i7 104 (by decide +kernel) (by decide +kernel)
theorem d_Machine_throwTo_0 : decode b_Machine_throwTo 0 = .ok (.aload_n 0, 1) := by decide +kernel
theorem d_Machine_throwTo_1 : decode b_Machine_throwTo 1 = .ok (.getfield 18, 3) := by decide +kernel
theorem d_Machine_throwTo_4 : decode b_Machine_throwTo 4 = .ok (.iload_n 1, 1) := by decide +kernel
theorem d_Machine_throwTo_5 : decode b_Machine_throwTo 5 = .ok (.invokevirtual 123, 3) := by decide +kernel
theorem d_Machine_throwTo_8 : decode b_Machine_throwTo 8 = .ok (.istore_n 2, 1) := by decide +kernel
theorem d_Machine_throwTo_9 : decode b_Machine_throwTo 9 = .ok (.iload_n 2, 1) := by decide +kernel
theorem d_Machine_throwTo_10 : decode b_Machine_throwTo 10 = .ok (.ifCond .ge 9, 3) := by decide +kernel
theorem d_Machine_throwTo_13 : decode b_Machine_throwTo 13 = .ok (.ldc_w 405, 3) := by decide +kernel
theorem d_Machine_throwTo_16 : decode b_Machine_throwTo 16 = .ok (.goto 10, 3) := by decide +kernel
theorem d_Machine_throwTo_19 : decode b_Machine_throwTo 19 = .ok (.aload_n 0, 1) := by decide +kernel
theorem d_Machine_throwTo_20 : decode b_Machine_throwTo 20 = .ok (.iload_n 2, 1) := by decide +kernel
theorem d_Machine_throwTo_21 : decode b_Machine_throwTo 21 = .ok (.ldc 114, 2) := by decide +kernel
theorem d_Machine_throwTo_23 : decode b_Machine_throwTo 23 = .ok (.invokevirtual 264, 3) := by decide +kernel
theorem d_Machine_throwTo_26 : decode b_Machine_throwTo 26 = .ok (.ireturn, 1) := by decide +kernel
theorem lk_Machine_405 : Cond.constant "TurtleWorld$Machine" 405 (-2147483637) ∈ tw_T := tw_i7 109 (by decide +kernel) (by decide +kernel)
theorem lk_World_147 : Cond.methodLink "TurtleWorld" 147 ⟨"TurtleWorld$Machine", "finishLine", "(II)V"⟩ ∈ tw_T := tw_i7 142 (by decide +kernel) (by decide +kernel)
theorem hd_Names_globalValue : y_Names_globalValue.cls ≠ "java/lang/invoke/MethodHandle" ∧ y_Names_globalValue.cls ≠ "java/lang/invoke/VarHandle" ∧ (parseMethodDescriptor y_Names_globalValue.desc).map (fun d => d.parameters.length) = some 1 := by decide +kernel
theorem lk_World_216 : Cond.methodLink "TurtleWorld" 216 ⟨"TurtleWorld$Output", "begin", "()V"⟩ ∈ tw_T := tw_i7 195 (by decide +kernel) (by decide +kernel)
theorem lk_World_218 : Cond.methodLink "TurtleWorld" 218 ⟨"TurtleWorld$Output", "addShown", "(IZ)V"⟩ ∈ tw_T := tw_i7 196 (by decide +kernel) (by decide +kernel)
theorem lk_World_222 : Cond.methodLink "TurtleWorld" 222 ⟨"TurtleWorld$Output", "signAt", "(I)I"⟩ ∈ tw_T := tw_i7 197 (by decide +kernel) (by decide +kernel)
theorem hd_Output_signAt : y_Output_signAt.cls ≠ "java/lang/invoke/MethodHandle" ∧ y_Output_signAt.cls ≠ "java/lang/invoke/VarHandle" ∧ (parseMethodDescriptor y_Output_signAt.desc).map (fun d => d.parameters.length) = some 1 := by decide +kernel
theorem in_Output_signAt : Cond.instanceMethod ⟨"TurtleWorld$Output", "signAt", "(I)I"⟩ ∈ tw_T := tw_i7 198 (by decide +kernel) (by decide +kernel)
theorem sel_Output_signAt : Cond.selects "TurtleWorld$Output" ⟨"TurtleWorld$Output", "signAt", "(I)I"⟩ ⟨"TurtleWorld$Output", "signAt", "(I)I"⟩ ∈ tw_T := tw_i7 199 (by decide +kernel) (by decide +kernel)
theorem d_Reader_openList_0 : decode b_Reader_openList 0 = .ok (.aload_n 0, 1) := by decide +kernel
theorem d_Reader_openList_1 : decode b_Reader_openList 1 = .ok (.getfield 78, 3) := by decide +kernel
theorem d_Reader_openList_4 : decode b_Reader_openList 4 = .ok (.bipush 20, 2) := by decide +kernel
theorem d_Reader_openList_6 : decode b_Reader_openList 6 = .ok (.if_icmp .lt 12, 3) := by decide +kernel
theorem d_Reader_openList_9 : decode b_Reader_openList 9 = .ok (.aload_n 0, 1) := by decide +kernel
theorem d_Reader_openList_10 : decode b_Reader_openList 10 = .ok (.iconst 5, 1) := by decide +kernel
theorem d_Reader_openList_11 : decode b_Reader_openList 11 = .ok (.iload_n 1, 1) := by decide +kernel
theorem d_Reader_openList_12 : decode b_Reader_openList 12 = .ok (.invokevirtual 54, 3) := by decide +kernel
theorem d_Reader_openList_15 : decode b_Reader_openList 15 = .ok (.goto 87, 3) := by decide +kernel
theorem d_Reader_openList_18 : decode b_Reader_openList 18 = .ok (.aload_n 0, 1) := by decide +kernel
theorem d_Reader_openList_19 : decode b_Reader_openList 19 = .ok (.getfield 81, 3) := by decide +kernel
theorem d_Reader_openList_22 : decode b_Reader_openList 22 = .ok (.sipush 600, 3) := by decide +kernel
theorem d_Reader_openList_25 : decode b_Reader_openList 25 = .ok (.if_icmp .le 13, 3) := by decide +kernel
theorem d_Reader_openList_28 : decode b_Reader_openList 28 = .ok (.aload_n 0, 1) := by decide +kernel
theorem d_Reader_openList_29 : decode b_Reader_openList 29 = .ok (.bipush 6, 2) := by decide +kernel
theorem d_Reader_openList_31 : decode b_Reader_openList 31 = .ok (.iload_n 1, 1) := by decide +kernel
theorem d_Reader_openList_32 : decode b_Reader_openList 32 = .ok (.invokevirtual 54, 3) := by decide +kernel
theorem d_Reader_openList_35 : decode b_Reader_openList 35 = .ok (.goto 67, 3) := by decide +kernel
theorem d_Reader_openList_38 : decode b_Reader_openList 38 = .ok (.aload_n 0, 1) := by decide +kernel
theorem d_Reader_openList_39 : decode b_Reader_openList 39 = .ok (.getfield 72, 3) := by decide +kernel
theorem d_Reader_openList_42 : decode b_Reader_openList 42 = .ok (.ifCond .eq 11, 3) := by decide +kernel
theorem d_Reader_openList_45 : decode b_Reader_openList 45 = .ok (.aload_n 0, 1) := by decide +kernel
theorem d_Reader_openList_46 : decode b_Reader_openList 46 = .ok (.getfield 72, 3) := by decide +kernel
theorem d_Reader_openList_49 : decode b_Reader_openList 49 = .ok (.iconst 1, 1) := by decide +kernel
theorem d_Reader_openList_50 : decode b_Reader_openList 50 = .ok (.if_icmp .ne 25, 3) := by decide +kernel
theorem d_Reader_openList_53 : decode b_Reader_openList 53 = .ok (.aload_n 0, 1) := by decide +kernel
theorem d_Reader_openList_54 : decode b_Reader_openList 54 = .ok (.aload_n 0, 1) := by decide +kernel
theorem d_Reader_openList_55 : decode b_Reader_openList 55 = .ok (.getfield 72, 3) := by decide +kernel
theorem d_Reader_openList_58 : decode b_Reader_openList 58 = .ok (.ifCond .ne 8, 3) := by decide +kernel
theorem d_Reader_openList_61 : decode b_Reader_openList 61 = .ok (.bipush 7, 2) := by decide +kernel
theorem d_Reader_openList_63 : decode b_Reader_openList 63 = .ok (.goto 5, 3) := by decide +kernel
theorem d_Reader_openList_66 : decode b_Reader_openList 66 = .ok (.bipush 8, 2) := by decide +kernel
theorem d_Reader_openList_68 : decode b_Reader_openList 68 = .ok (.iload_n 1, 1) := by decide +kernel
theorem d_Reader_openList_69 : decode b_Reader_openList 69 = .ok (.invokevirtual 54, 3) := by decide +kernel
theorem d_Reader_openList_72 : decode b_Reader_openList 72 = .ok (.goto 30, 3) := by decide +kernel
theorem d_Reader_openList_75 : decode b_Reader_openList 75 = .ok (.aload_n 0, 1) := by decide +kernel
theorem d_Reader_openList_76 : decode b_Reader_openList 76 = .ok (.invokevirtual 120, 3) := by decide +kernel
theorem d_Reader_openList_79 : decode b_Reader_openList 79 = .ok (.aload_n 0, 1) := by decide +kernel
theorem d_Reader_openList_80 : decode b_Reader_openList 80 = .ok (.getfield 18, 3) := by decide +kernel
theorem d_Reader_openList_83 : decode b_Reader_openList 83 = .ok (.aload_n 0, 1) := by decide +kernel
theorem d_Reader_openList_84 : decode b_Reader_openList 84 = .ok (.getfield 78, 3) := by decide +kernel
theorem d_Reader_openList_87 : decode b_Reader_openList 87 = .ok (.aload_n 0, 1) := by decide +kernel
theorem d_Reader_openList_88 : decode b_Reader_openList 88 = .ok (.getfield 75, 3) := by decide +kernel
theorem d_Reader_openList_91 : decode b_Reader_openList 91 = .ok (.iastore, 1) := by decide +kernel
theorem d_Reader_openList_92 : decode b_Reader_openList 92 = .ok (.aload_n 0, 1) := by decide +kernel
theorem d_Reader_openList_93 : decode b_Reader_openList 93 = .ok (.dup, 1) := by decide +kernel
theorem d_Reader_openList_94 : decode b_Reader_openList 94 = .ok (.getfield 78, 3) := by decide +kernel
theorem d_Reader_openList_97 : decode b_Reader_openList 97 = .ok (.iconst 1, 1) := by decide +kernel
theorem d_Reader_openList_98 : decode b_Reader_openList 98 = .ok (.iadd, 1) := by decide +kernel
theorem d_Reader_openList_99 : decode b_Reader_openList 99 = .ok (.putfield 78, 3) := by decide +kernel
theorem d_Reader_openList_102 : decode b_Reader_openList 102 = .ok (.return_, 1) := by decide +kernel
theorem lk_Reader_120 : Cond.methodLink "TurtleWorld$Reader" 120 ⟨"TurtleWorld$Reader", "closeInputs", "()V"⟩ ∈ tw_T := tw_i4 55 (by decide +kernel) (by decide +kernel)
theorem hd_Reader_closeInputs : y_Reader_closeInputs.cls ≠ "java/lang/invoke/MethodHandle" ∧ y_Reader_closeInputs.cls ≠ "java/lang/invoke/VarHandle" ∧ (parseMethodDescriptor y_Reader_closeInputs.desc).map (fun d => d.parameters.length) = some 0 := by decide +kernel
theorem in_Reader_closeInputs : Cond.instanceMethod ⟨"TurtleWorld$Reader", "closeInputs", "()V"⟩ ∈ tw_T := tw_i4 57 (by decide +kernel) (by decide +kernel)
theorem sel_Reader_closeInputs : Cond.selects "TurtleWorld$Reader" ⟨"TurtleWorld$Reader", "closeInputs", "()V"⟩ ⟨"TurtleWorld$Reader", "closeInputs", "()V"⟩ ∈ tw_T := tw_inS 14 (by decide +kernel) (by decide +kernel)
theorem d_Reader_takePlain_0 : decode b_Reader_takePlain 0 = .ok (.iload_n 1, 1) := by decide +kernel
theorem d_Reader_takePlain_1 : decode b_Reader_takePlain 1 = .ok (.invokestatic 138, 3) := by decide +kernel
theorem d_Reader_takePlain_4 : decode b_Reader_takePlain 4 = .ok (.ifCond .eq 14, 3) := by decide +kernel
theorem d_Reader_takePlain_7 : decode b_Reader_takePlain 7 = .ok (.aload_n 0, 1) := by decide +kernel
theorem d_Reader_takePlain_8 : decode b_Reader_takePlain 8 = .ok (.getfield 30, 3) := by decide +kernel
theorem d_Reader_takePlain_11 : decode b_Reader_takePlain 11 = .ok (.iload_n 1, 1) := by decide +kernel
theorem d_Reader_takePlain_12 : decode b_Reader_takePlain 12 = .ok (.invokevirtual 141, 3) := by decide +kernel
theorem d_Reader_takePlain_15 : decode b_Reader_takePlain 15 = .ok (.goto 4, 3) := by decide +kernel
theorem d_Reader_takePlain_18 : decode b_Reader_takePlain 18 = .ok (.iconst 0, 1) := by decide +kernel
theorem d_Reader_takePlain_19 : decode b_Reader_takePlain 19 = .ok (.istore_n 3, 1) := by decide +kernel
theorem d_Reader_takePlain_20 : decode b_Reader_takePlain 20 = .ok (.aload_n 0, 1) := by decide +kernel
theorem d_Reader_takePlain_21 : decode b_Reader_takePlain 21 = .ok (.getfield 72, 3) := by decide +kernel
theorem d_Reader_takePlain_24 : decode b_Reader_takePlain 24 = .ok (.ifCond .ne 12, 3) := by decide +kernel
theorem d_Reader_takePlain_27 : decode b_Reader_takePlain 27 = .ok (.aload_n 0, 1) := by decide +kernel
theorem d_Reader_takePlain_28 : decode b_Reader_takePlain 28 = .ok (.iload_n 3, 1) := by decide +kernel
theorem d_Reader_takePlain_29 : decode b_Reader_takePlain 29 = .ok (.iload_n 2, 1) := by decide +kernel
theorem d_Reader_takePlain_30 : decode b_Reader_takePlain 30 = .ok (.invokevirtual 144, 3) := by decide +kernel
theorem d_Reader_takePlain_33 : decode b_Reader_takePlain 33 = .ok (.goto 80, 3) := by decide +kernel
theorem d_Reader_takePlain_36 : decode b_Reader_takePlain 36 = .ok (.aload_n 0, 1) := by decide +kernel
theorem d_Reader_takePlain_37 : decode b_Reader_takePlain 37 = .ok (.getfield 72, 3) := by decide +kernel
theorem d_Reader_takePlain_40 : decode b_Reader_takePlain 40 = .ok (.iconst 1, 1) := by decide +kernel
theorem d_Reader_takePlain_41 : decode b_Reader_takePlain 41 = .ok (.if_icmp .ne 12, 3) := by decide +kernel
theorem d_Reader_takePlain_44 : decode b_Reader_takePlain 44 = .ok (.aload_n 0, 1) := by decide +kernel
theorem d_Reader_takePlain_45 : decode b_Reader_takePlain 45 = .ok (.iload_n 1, 1) := by decide +kernel
theorem d_Reader_takePlain_46 : decode b_Reader_takePlain 46 = .ok (.iload_n 2, 1) := by decide +kernel
theorem d_Reader_takePlain_47 : decode b_Reader_takePlain 47 = .ok (.invokevirtual 147, 3) := by decide +kernel
theorem d_Reader_takePlain_50 : decode b_Reader_takePlain 50 = .ok (.goto 63, 3) := by decide +kernel
theorem d_Reader_takePlain_53 : decode b_Reader_takePlain 53 = .ok (.aload_n 0, 1) := by decide +kernel
theorem d_Reader_takePlain_54 : decode b_Reader_takePlain 54 = .ok (.getfield 72, 3) := by decide +kernel
theorem d_Reader_takePlain_57 : decode b_Reader_takePlain 57 = .ok (.iconst 2, 1) := by decide +kernel
theorem d_Reader_takePlain_58 : decode b_Reader_takePlain 58 = .ok (.if_icmp .ne 18, 3) := by decide +kernel
theorem d_Reader_takePlain_61 : decode b_Reader_takePlain 61 = .ok (.iload_n 3, 1) := by decide +kernel
theorem d_Reader_takePlain_62 : decode b_Reader_takePlain 62 = .ok (.bipush 87, 2) := by decide +kernel
theorem d_Reader_takePlain_64 : decode b_Reader_takePlain 64 = .ok (.if_icmp .ne 12, 3) := by decide +kernel
theorem d_Reader_takePlain_67 : decode b_Reader_takePlain 67 = .ok (.aload_n 0, 1) := by decide +kernel
theorem d_Reader_takePlain_68 : decode b_Reader_takePlain 68 = .ok (.iload_n 1, 1) := by decide +kernel
theorem d_Reader_takePlain_69 : decode b_Reader_takePlain 69 = .ok (.iload_n 2, 1) := by decide +kernel
theorem d_Reader_takePlain_70 : decode b_Reader_takePlain 70 = .ok (.invokevirtual 150, 3) := by decide +kernel
theorem d_Reader_takePlain_73 : decode b_Reader_takePlain 73 = .ok (.goto 40, 3) := by decide +kernel
theorem d_Reader_takePlain_76 : decode b_Reader_takePlain 76 = .ok (.aload_n 0, 1) := by decide +kernel
theorem d_Reader_takePlain_77 : decode b_Reader_takePlain 77 = .ok (.invokevirtual 120, 3) := by decide +kernel
theorem d_Reader_takePlain_80 : decode b_Reader_takePlain 80 = .ok (.aload_n 0, 1) := by decide +kernel
theorem d_Reader_takePlain_81 : decode b_Reader_takePlain 81 = .ok (.getfield 68, 3) := by decide +kernel
theorem d_Reader_takePlain_84 : decode b_Reader_takePlain 84 = .ok (.ifCond .eq 24, 3) := by decide +kernel
theorem d_Reader_takePlain_87 : decode b_Reader_takePlain 87 = .ok (.aload_n 0, 1) := by decide +kernel
theorem d_Reader_takePlain_88 : decode b_Reader_takePlain 88 = .ok (.getfield 78, 3) := by decide +kernel
theorem d_Reader_takePlain_91 : decode b_Reader_takePlain 91 = .ok (.ifCond .ne 17, 3) := by decide +kernel
theorem d_Reader_takePlain_94 : decode b_Reader_takePlain 94 = .ok (.iload_n 3, 1) := by decide +kernel
theorem d_Reader_takePlain_95 : decode b_Reader_takePlain 95 = .ok (.bipush 85, 2) := by decide +kernel
theorem d_Reader_takePlain_97 : decode b_Reader_takePlain 97 = .ok (.if_icmp .ne 11, 3) := by decide +kernel
theorem d_Reader_takePlain_100 : decode b_Reader_takePlain 100 = .ok (.aload_n 0, 1) := by decide +kernel
theorem d_Reader_takePlain_101 : decode b_Reader_takePlain 101 = .ok (.iload_n 2, 1) := by decide +kernel
theorem d_Reader_takePlain_102 : decode b_Reader_takePlain 102 = .ok (.invokevirtual 153, 3) := by decide +kernel
theorem d_Reader_takePlain_105 : decode b_Reader_takePlain 105 = .ok (.goto 8, 3) := by decide +kernel
theorem d_Reader_takePlain_108 : decode b_Reader_takePlain 108 = .ok (.aload_n 0, 1) := by decide +kernel
theorem d_Reader_takePlain_109 : decode b_Reader_takePlain 109 = .ok (.iload_n 1, 1) := by decide +kernel
theorem d_Reader_takePlain_110 : decode b_Reader_takePlain 110 = .ok (.invokevirtual 128, 3) := by decide +kernel
theorem d_Reader_takePlain_113 : decode b_Reader_takePlain 113 = .ok (.return_, 1) := by decide +kernel
theorem lk_Reader_153 : Cond.methodLink "TurtleWorld$Reader" 153 ⟨"TurtleWorld$Reader", "closeBody", "(I)V"⟩ ∈ tw_T := tw_i4 141 (by decide +kernel) (by decide +kernel)
theorem hd_Reader_closeBody : y_Reader_closeBody.cls ≠ "java/lang/invoke/MethodHandle" ∧ y_Reader_closeBody.cls ≠ "java/lang/invoke/VarHandle" ∧ (parseMethodDescriptor y_Reader_closeBody.desc).map (fun d => d.parameters.length) = some 1 := by decide +kernel
theorem in_Reader_closeBody : Cond.instanceMethod ⟨"TurtleWorld$Reader", "closeBody", "(I)V"⟩ ∈ tw_T := tw_i4 143 (by decide +kernel) (by decide +kernel)
theorem sel_Reader_closeBody : Cond.selects "TurtleWorld$Reader" ⟨"TurtleWorld$Reader", "closeBody", "(I)V"⟩ ⟨"TurtleWorld$Reader", "closeBody", "(I)V"⟩ ∈ tw_T := tw_inS 23 (by decide +kernel) (by decide +kernel)
theorem lk_Reader_150 : Cond.methodLink "TurtleWorld$Reader" 150 ⟨"TurtleWorld$Reader", "takeInput", "(II)V"⟩ ∈ tw_T := tw_i4 133 (by decide +kernel) (by decide +kernel)
theorem hd_Reader_takeInput : y_Reader_takeInput.cls ≠ "java/lang/invoke/MethodHandle" ∧ y_Reader_takeInput.cls ≠ "java/lang/invoke/VarHandle" ∧ (parseMethodDescriptor y_Reader_takeInput.desc).map (fun d => d.parameters.length) = some 2 := by decide +kernel
theorem in_Reader_takeInput : Cond.instanceMethod ⟨"TurtleWorld$Reader", "takeInput", "(II)V"⟩ ∈ tw_T := tw_i4 135 (by decide +kernel) (by decide +kernel)
theorem sel_Reader_takeInput : Cond.selects "TurtleWorld$Reader" ⟨"TurtleWorld$Reader", "takeInput", "(II)V"⟩ ⟨"TurtleWorld$Reader", "takeInput", "(II)V"⟩ ∈ tw_T := tw_inS 22 (by decide +kernel) (by decide +kernel)
theorem lk_Reader_147 : Cond.methodLink "TurtleWorld$Reader" 147 ⟨"TurtleWorld$Reader", "takeName", "(II)V"⟩ ∈ tw_T := tw_i4 116 (by decide +kernel) (by decide +kernel)
theorem hd_Reader_takeName : y_Reader_takeName.cls ≠ "java/lang/invoke/MethodHandle" ∧ y_Reader_takeName.cls ≠ "java/lang/invoke/VarHandle" ∧ (parseMethodDescriptor y_Reader_takeName.desc).map (fun d => d.parameters.length) = some 2 := by decide +kernel
theorem in_Reader_takeName : Cond.instanceMethod ⟨"TurtleWorld$Reader", "takeName", "(II)V"⟩ ∈ tw_T := tw_i4 118 (by decide +kernel) (by decide +kernel)
theorem sel_Reader_takeName : Cond.selects "TurtleWorld$Reader" ⟨"TurtleWorld$Reader", "takeName", "(II)V"⟩ ⟨"TurtleWorld$Reader", "takeName", "(II)V"⟩ ∈ tw_T := tw_inS 20 (by decide +kernel) (by decide +kernel)
theorem lk_Reader_144 : Cond.methodLink "TurtleWorld$Reader" 144 ⟨"TurtleWorld$Reader", "takeTo", "(II)V"⟩ ∈ tw_T := tw_i4 112 (by decide +kernel) (by decide +kernel)
theorem hd_Reader_takeTo : y_Reader_takeTo.cls ≠ "java/lang/invoke/MethodHandle" ∧ y_Reader_takeTo.cls ≠ "java/lang/invoke/VarHandle" ∧ (parseMethodDescriptor y_Reader_takeTo.desc).map (fun d => d.parameters.length) = some 2 := by decide +kernel
theorem in_Reader_takeTo : Cond.instanceMethod ⟨"TurtleWorld$Reader", "takeTo", "(II)V"⟩ ∈ tw_T := tw_i4 114 (by decide +kernel) (by decide +kernel)
theorem sel_Reader_takeTo : Cond.selects "TurtleWorld$Reader" ⟨"TurtleWorld$Reader", "takeTo", "(II)V"⟩ ⟨"TurtleWorld$Reader", "takeTo", "(II)V"⟩ ∈ tw_T := tw_inS 19 (by decide +kernel) (by decide +kernel)
theorem lk_Names_63 : Cond.methodLink "TurtleWorld$Names" 63 ⟨"TurtleWorld$Heap", "moved", "(I)I"⟩ ∈ tw_T := tw_i4 196 (by decide +kernel) (by decide +kernel)
theorem hd_Heap_moved : y_Heap_moved.cls ≠ "java/lang/invoke/MethodHandle" ∧ y_Heap_moved.cls ≠ "java/lang/invoke/VarHandle" ∧ (parseMethodDescriptor y_Heap_moved.desc).map (fun d => d.parameters.length) = some 1 := by decide +kernel
theorem lk_Procedures_45 : Cond.methodLink "TurtleWorld$Procedures" 45 ⟨"TurtleWorld$Heap", "moved", "(I)I"⟩ ∈ tw_T := tw_i4 201 (by decide +kernel) (by decide +kernel)
theorem lk_Heap_174 : Cond.methodLink "TurtleWorld$Heap" 174 ⟨"TurtleWorld$Heap", "moved", "(I)I"⟩ ∈ tw_T := tw_i4 211 (by decide +kernel) (by decide +kernel)
theorem lk_Machine_177 : Cond.methodLink "TurtleWorld$Machine" 177 ⟨"TurtleWorld$Machine", "meetWord", "(I)I"⟩ ∈ tw_T := tw_i5 46 (by decide +kernel) (by decide +kernel)
theorem hd_Machine_meetWord : y_Machine_meetWord.cls ≠ "java/lang/invoke/MethodHandle" ∧ y_Machine_meetWord.cls ≠ "java/lang/invoke/VarHandle" ∧ (parseMethodDescriptor y_Machine_meetWord.desc).map (fun d => d.parameters.length) = some 1 := by decide +kernel
theorem in_Machine_meetWord : Cond.instanceMethod ⟨"TurtleWorld$Machine", "meetWord", "(I)I"⟩ ∈ tw_T := tw_i5 48 (by decide +kernel) (by decide +kernel)
theorem sel_Machine_meetWord : Cond.selects "TurtleWorld$Machine" ⟨"TurtleWorld$Machine", "meetWord", "(I)I"⟩ ⟨"TurtleWorld$Machine", "meetWord", "(I)I"⟩ ∈ tw_T := tw_inS 35 (by decide +kernel) (by decide +kernel)
theorem d_Machine_settle_0 : decode b_Machine_settle 0 = .ok (.aload_n 0, 1) := by decide +kernel
theorem d_Machine_settle_1 : decode b_Machine_settle 1 = .ok (.getfield 18, 3) := by decide +kernel
theorem d_Machine_settle_4 : decode b_Machine_settle 4 = .ok (.getfield 130, 3) := by decide +kernel
theorem d_Machine_settle_7 : decode b_Machine_settle 7 = .ok (.iconst 1, 1) := by decide +kernel
theorem d_Machine_settle_8 : decode b_Machine_settle 8 = .ok (.isub, 1) := by decide +kernel
theorem d_Machine_settle_9 : decode b_Machine_settle 9 = .ok (.istore_n 1, 1) := by decide +kernel
theorem d_Machine_settle_10 : decode b_Machine_settle 10 = .ok (.iload_n 1, 1) := by decide +kernel
theorem d_Machine_settle_11 : decode b_Machine_settle 11 = .ok (.ifCond .ge 6, 3) := by decide +kernel
theorem d_Machine_settle_14 : decode b_Machine_settle 14 = .ok (.ldc 160, 2) := by decide +kernel
theorem d_Machine_settle_16 : decode b_Machine_settle 16 = .ok (.ireturn, 1) := by decide +kernel
theorem d_Machine_settle_17 : decode b_Machine_settle 17 = .ok (.aload_n 0, 1) := by decide +kernel
theorem d_Machine_settle_18 : decode b_Machine_settle 18 = .ok (.getfield 22, 3) := by decide +kernel
theorem d_Machine_settle_21 : decode b_Machine_settle 21 = .ok (.getfield 42, 3) := by decide +kernel
theorem d_Machine_settle_24 : decode b_Machine_settle 24 = .ok (.iconst 1, 1) := by decide +kernel
theorem d_Machine_settle_25 : decode b_Machine_settle 25 = .ok (.isub, 1) := by decide +kernel
theorem d_Machine_settle_26 : decode b_Machine_settle 26 = .ok (.istore_n 2, 1) := by decide +kernel
theorem d_Machine_settle_27 : decode b_Machine_settle 27 = .ok (.iload_n 2, 1) := by decide +kernel
theorem d_Machine_settle_28 : decode b_Machine_settle 28 = .ok (.aload_n 0, 1) := by decide +kernel
theorem d_Machine_settle_29 : decode b_Machine_settle 29 = .ok (.getfield 18, 3) := by decide +kernel
theorem d_Machine_settle_32 : decode b_Machine_settle 32 = .ok (.getfield 151, 3) := by decide +kernel
theorem d_Machine_settle_35 : decode b_Machine_settle 35 = .ok (.iload_n 1, 1) := by decide +kernel
theorem d_Machine_settle_36 : decode b_Machine_settle 36 = .ok (.iaload, 1) := by decide +kernel
theorem d_Machine_settle_37 : decode b_Machine_settle 37 = .ok (.if_icmp .lt 11, 3) := by decide +kernel
theorem d_Machine_settle_40 : decode b_Machine_settle 40 = .ok (.iload_n 2, 1) := by decide +kernel
theorem d_Machine_settle_41 : decode b_Machine_settle 41 = .ok (.ifCond .lt 7, 3) := by decide +kernel
theorem d_Machine_settle_44 : decode b_Machine_settle 44 = .ok (.iconst 1, 1) := by decide +kernel
theorem d_Machine_settle_45 : decode b_Machine_settle 45 = .ok (.goto 4, 3) := by decide +kernel
theorem d_Machine_settle_48 : decode b_Machine_settle 48 = .ok (.iconst 0, 1) := by decide +kernel
theorem d_Machine_settle_49 : decode b_Machine_settle 49 = .ok (.istore_n 3, 1) := by decide +kernel
theorem d_Machine_settle_50 : decode b_Machine_settle 50 = .ok (.aload_n 0, 1) := by decide +kernel
theorem d_Machine_settle_51 : decode b_Machine_settle 51 = .ok (.iload_n 1, 1) := by decide +kernel
theorem d_Machine_settle_52 : decode b_Machine_settle 52 = .ok (.invokevirtual 226, 3) := by decide +kernel
theorem d_Machine_settle_55 : decode b_Machine_settle 55 = .ok (.istore 4, 2) := by decide +kernel
theorem d_Machine_settle_57 : decode b_Machine_settle 57 = .ok (.iload 4, 2) := by decide +kernel
theorem d_Machine_settle_59 : decode b_Machine_settle 59 = .ok (.ifCond .lt 37, 3) := by decide +kernel
theorem d_Machine_settle_62 : decode b_Machine_settle 62 = .ok (.getstatic 229, 3) := by decide +kernel
theorem d_Machine_settle_65 : decode b_Machine_settle 65 = .ok (.iload 4, 2) := by decide +kernel
theorem d_Machine_settle_67 : decode b_Machine_settle 67 = .ok (.iaload, 1) := by decide +kernel
theorem d_Machine_settle_68 : decode b_Machine_settle 68 = .ok (.iload_n 3, 1) := by decide +kernel
theorem d_Machine_settle_69 : decode b_Machine_settle 69 = .ok (.ifCond .eq 15, 3) := by decide +kernel
theorem d_Machine_settle_72 : decode b_Machine_settle 72 = .ok (.aload_n 0, 1) := by decide +kernel
theorem d_Machine_settle_73 : decode b_Machine_settle 73 = .ok (.getfield 22, 3) := by decide +kernel
theorem d_Machine_settle_76 : decode b_Machine_settle 76 = .ok (.getfield 232, 3) := by decide +kernel
theorem d_Machine_settle_79 : decode b_Machine_settle 79 = .ok (.iload_n 2, 1) := by decide +kernel
theorem d_Machine_settle_80 : decode b_Machine_settle 80 = .ok (.iaload, 1) := by decide +kernel
theorem d_Machine_settle_81 : decode b_Machine_settle 81 = .ok (.goto 4, 3) := by decide +kernel
theorem d_Machine_settle_84 : decode b_Machine_settle 84 = .ok (.iconst 0, 1) := by decide +kernel
theorem d_Machine_settle_85 : decode b_Machine_settle 85 = .ok (.if_icmp .le 11, 3) := by decide +kernel
theorem d_Machine_settle_88 : decode b_Machine_settle 88 = .ok (.aload_n 0, 1) := by decide +kernel
theorem d_Machine_settle_89 : decode b_Machine_settle 89 = .ok (.iload 4, 2) := by decide +kernel
theorem d_Machine_settle_91 : decode b_Machine_settle 91 = .ok (.iload_n 1, 1) := by decide +kernel
theorem d_Machine_settle_92 : decode b_Machine_settle 92 = .ok (.invokevirtual 235, 3) := by decide +kernel
theorem d_Machine_settle_95 : decode b_Machine_settle 95 = .ok (.ireturn, 1) := by decide +kernel
theorem d_Machine_settle_96 : decode b_Machine_settle 96 = .ok (.iload_n 3, 1) := by decide +kernel
theorem d_Machine_settle_97 : decode b_Machine_settle 97 = .ok (.ifCond .ne 9, 3) := by decide +kernel
theorem d_Machine_settle_100 : decode b_Machine_settle 100 = .ok (.aload_n 0, 1) := by decide +kernel
theorem d_Machine_settle_101 : decode b_Machine_settle 101 = .ok (.iload_n 1, 1) := by decide +kernel
theorem d_Machine_settle_102 : decode b_Machine_settle 102 = .ok (.invokevirtual 238, 3) := by decide +kernel
theorem d_Machine_settle_105 : decode b_Machine_settle 105 = .ok (.ireturn, 1) := by decide +kernel
theorem d_Machine_settle_106 : decode b_Machine_settle 106 = .ok (.aload_n 0, 1) := by decide +kernel
theorem d_Machine_settle_107 : decode b_Machine_settle 107 = .ok (.getfield 22, 3) := by decide +kernel
theorem d_Machine_settle_110 : decode b_Machine_settle 110 = .ok (.getfield 241, 3) := by decide +kernel
theorem d_Machine_settle_113 : decode b_Machine_settle 113 = .ok (.iload_n 2, 1) := by decide +kernel
theorem d_Machine_settle_114 : decode b_Machine_settle 114 = .ok (.iaload, 1) := by decide +kernel
theorem d_Machine_settle_115 : decode b_Machine_settle 115 = .ok (.iconst 4, 1) := by decide +kernel
theorem d_Machine_settle_116 : decode b_Machine_settle 116 = .ok (.if_icmp .ne 10, 3) := by decide +kernel
theorem d_Machine_settle_119 : decode b_Machine_settle 119 = .ok (.aload_n 0, 1) := by decide +kernel
theorem d_Machine_settle_120 : decode b_Machine_settle 120 = .ok (.iload_n 1, 1) := by decide +kernel
theorem d_Machine_settle_121 : decode b_Machine_settle 121 = .ok (.iload_n 2, 1) := by decide +kernel
theorem d_Machine_settle_122 : decode b_Machine_settle 122 = .ok (.invokevirtual 242, 3) := by decide +kernel
theorem d_Machine_settle_125 : decode b_Machine_settle 125 = .ok (.ireturn, 1) := by decide +kernel
theorem d_Machine_settle_126 : decode b_Machine_settle 126 = .ok (.aload_n 0, 1) := by decide +kernel
theorem d_Machine_settle_127 : decode b_Machine_settle 127 = .ok (.getfield 111, 3) := by decide +kernel
theorem d_Machine_settle_130 : decode b_Machine_settle 130 = .ok (.ldc 114, 2) := by decide +kernel
theorem d_Machine_settle_132 : decode b_Machine_settle 132 = .ok (.if_icmp .ne 6, 3) := by decide +kernel
theorem d_Machine_settle_135 : decode b_Machine_settle 135 = .ok (.ldc 160, 2) := by decide +kernel
theorem d_Machine_settle_137 : decode b_Machine_settle 137 = .ok (.ireturn, 1) := by decide +kernel
theorem d_Machine_settle_138 : decode b_Machine_settle 138 = .ok (.aload_n 0, 1) := by decide +kernel
theorem d_Machine_settle_139 : decode b_Machine_settle 139 = .ok (.iconst 0, 1) := by decide +kernel
theorem d_Machine_settle_140 : decode b_Machine_settle 140 = .ok (.putfield 62, 3) := by decide +kernel
theorem d_Machine_settle_143 : decode b_Machine_settle 143 = .ok (.aload_n 0, 1) := by decide +kernel
theorem d_Machine_settle_144 : decode b_Machine_settle 144 = .ok (.getfield 22, 3) := by decide +kernel
theorem d_Machine_settle_147 : decode b_Machine_settle 147 = .ok (.aload_n 0, 1) := by decide +kernel
theorem d_Machine_settle_148 : decode b_Machine_settle 148 = .ok (.getfield 111, 3) := by decide +kernel
theorem d_Machine_settle_151 : decode b_Machine_settle 151 = .ok (.invokevirtual 245, 3) := by decide +kernel
theorem d_Machine_settle_154 : decode b_Machine_settle 154 = .ok (.ldc 110, 2) := by decide +kernel
theorem d_Machine_settle_156 : decode b_Machine_settle 156 = .ok (.ireturn, 1) := by decide +kernel
theorem lk_Machine_226 : Cond.methodLink "TurtleWorld$Machine" 226 ⟨"TurtleWorld$Machine", "signAhead", "(I)I"⟩ ∈ tw_T := tw_i5 105 (by decide +kernel) (by decide +kernel)
theorem hd_Machine_signAhead : y_Machine_signAhead.cls ≠ "java/lang/invoke/MethodHandle" ∧ y_Machine_signAhead.cls ≠ "java/lang/invoke/VarHandle" ∧ (parseMethodDescriptor y_Machine_signAhead.desc).map (fun d => d.parameters.length) = some 1 := by decide +kernel
theorem in_Machine_signAhead : Cond.instanceMethod ⟨"TurtleWorld$Machine", "signAhead", "(I)I"⟩ ∈ tw_T := tw_i5 107 (by decide +kernel) (by decide +kernel)
theorem sel_Machine_signAhead : Cond.selects "TurtleWorld$Machine" ⟨"TurtleWorld$Machine", "signAhead", "(I)I"⟩ ⟨"TurtleWorld$Machine", "signAhead", "(I)I"⟩ ∈ tw_T := tw_inS 39 (by decide +kernel) (by decide +kernel)
theorem lk_Machine_241 : Cond.fieldLink "TurtleWorld$Machine" 241 "TurtleWorld$Waiting" "kind" "[I" ∈ tw_T := tw_i3 83 (by decide +kernel) (by decide +kernel)
theorem lk_Machine_245 : Cond.methodLink "TurtleWorld$Machine" 245 ⟨"TurtleWorld$Waiting", "supply", "(I)V"⟩ ∈ tw_T := tw_i5 130 (by decide +kernel) (by decide +kernel)
theorem hd_Waiting_supply : y_Waiting_supply.cls ≠ "java/lang/invoke/MethodHandle" ∧ y_Waiting_supply.cls ≠ "java/lang/invoke/VarHandle" ∧ (parseMethodDescriptor y_Waiting_supply.desc).map (fun d => d.parameters.length) = some 1 := by decide +kernel
theorem in_Waiting_supply : Cond.instanceMethod ⟨"TurtleWorld$Waiting", "supply", "(I)V"⟩ ∈ tw_T := tw_i5 131 (by decide +kernel) (by decide +kernel)
theorem sel_Waiting_supply : Cond.selects "TurtleWorld$Waiting" ⟨"TurtleWorld$Waiting", "supply", "(I)V"⟩ ⟨"TurtleWorld$Waiting", "supply", "(I)V"⟩ ∈ tw_T := tw_i5 132 (by decide +kernel) (by decide +kernel)
theorem lk_Machine_242 : Cond.methodLink "TurtleWorld$Machine" 242 ⟨"TurtleWorld$Machine", "closeParen", "(II)I"⟩ ∈ tw_T := tw_i5 126 (by decide +kernel) (by decide +kernel)
theorem hd_Machine_closeParen : y_Machine_closeParen.cls ≠ "java/lang/invoke/MethodHandle" ∧ y_Machine_closeParen.cls ≠ "java/lang/invoke/VarHandle" ∧ (parseMethodDescriptor y_Machine_closeParen.desc).map (fun d => d.parameters.length) = some 2 := by decide +kernel
theorem in_Machine_closeParen : Cond.instanceMethod ⟨"TurtleWorld$Machine", "closeParen", "(II)I"⟩ ∈ tw_T := tw_i5 128 (by decide +kernel) (by decide +kernel)
theorem sel_Machine_closeParen : Cond.selects "TurtleWorld$Machine" ⟨"TurtleWorld$Machine", "closeParen", "(II)I"⟩ ⟨"TurtleWorld$Machine", "closeParen", "(II)I"⟩ ∈ tw_T := tw_inS 42 (by decide +kernel) (by decide +kernel)
theorem lk_Machine_238 : Cond.methodLink "TurtleWorld$Machine" 238 ⟨"TurtleWorld$Machine", "settleWhole", "(I)I"⟩ ∈ tw_T := tw_i5 121 (by decide +kernel) (by decide +kernel)
theorem hd_Machine_settleWhole : y_Machine_settleWhole.cls ≠ "java/lang/invoke/MethodHandle" ∧ y_Machine_settleWhole.cls ≠ "java/lang/invoke/VarHandle" ∧ (parseMethodDescriptor y_Machine_settleWhole.desc).map (fun d => d.parameters.length) = some 1 := by decide +kernel
theorem in_Machine_settleWhole : Cond.instanceMethod ⟨"TurtleWorld$Machine", "settleWhole", "(I)I"⟩ ∈ tw_T := tw_i5 123 (by decide +kernel) (by decide +kernel)
theorem sel_Machine_settleWhole : Cond.selects "TurtleWorld$Machine" ⟨"TurtleWorld$Machine", "settleWhole", "(I)I"⟩ ⟨"TurtleWorld$Machine", "settleWhole", "(I)I"⟩ ∈ tw_T := tw_inS 41 (by decide +kernel) (by decide +kernel)
theorem lk_Machine_235 : Cond.methodLink "TurtleWorld$Machine" 235 ⟨"TurtleWorld$Machine", "meetSign", "(II)I"⟩ ∈ tw_T := tw_i5 111 (by decide +kernel) (by decide +kernel)
theorem hd_Machine_meetSign : y_Machine_meetSign.cls ≠ "java/lang/invoke/MethodHandle" ∧ y_Machine_meetSign.cls ≠ "java/lang/invoke/VarHandle" ∧ (parseMethodDescriptor y_Machine_meetSign.desc).map (fun d => d.parameters.length) = some 2 := by decide +kernel
theorem in_Machine_meetSign : Cond.instanceMethod ⟨"TurtleWorld$Machine", "meetSign", "(II)I"⟩ ∈ tw_T := tw_i5 113 (by decide +kernel) (by decide +kernel)
theorem sel_Machine_meetSign : Cond.selects "TurtleWorld$Machine" ⟨"TurtleWorld$Machine", "meetSign", "(II)I"⟩ ⟨"TurtleWorld$Machine", "meetSign", "(II)I"⟩ ∈ tw_T := tw_inS 40 (by decide +kernel) (by decide +kernel)
theorem lk_Machine_232 : Cond.fieldLink "TurtleWorld$Machine" 232 "TurtleWorld$Waiting" "strength" "[I" ∈ tw_T := tw_i3 89 (by decide +kernel) (by decide +kernel)
theorem lk_Machine_270 : Cond.methodLink "TurtleWorld$Machine" 270 ⟨"TurtleWorld$Machine", "finishTest", "(II)I"⟩ ∈ tw_T := tw_i5 155 (by decide +kernel) (by decide +kernel)
theorem hd_Machine_finishTest : y_Machine_finishTest.cls ≠ "java/lang/invoke/MethodHandle" ∧ y_Machine_finishTest.cls ≠ "java/lang/invoke/VarHandle" ∧ (parseMethodDescriptor y_Machine_finishTest.desc).map (fun d => d.parameters.length) = some 2 := by decide +kernel
theorem in_Machine_finishTest : Cond.instanceMethod ⟨"TurtleWorld$Machine", "finishTest", "(II)I"⟩ ∈ tw_T := tw_i5 157 (by decide +kernel) (by decide +kernel)
theorem sel_Machine_finishTest : Cond.selects "TurtleWorld$Machine" ⟨"TurtleWorld$Machine", "finishTest", "(II)I"⟩ ⟨"TurtleWorld$Machine", "finishTest", "(II)I"⟩ ∈ tw_T := tw_inS 47 (by decide +kernel) (by decide +kernel)
theorem lk_Machine_273 : Cond.methodLink "TurtleWorld$Machine" 273 ⟨"TurtleWorld$Machine", "finishMapped", "(II)I"⟩ ∈ tw_T := tw_i5 165 (by decide +kernel) (by decide +kernel)
theorem hd_Machine_finishMapped : y_Machine_finishMapped.cls ≠ "java/lang/invoke/MethodHandle" ∧ y_Machine_finishMapped.cls ≠ "java/lang/invoke/VarHandle" ∧ (parseMethodDescriptor y_Machine_finishMapped.desc).map (fun d => d.parameters.length) = some 2 := by decide +kernel
theorem in_Machine_finishMapped : Cond.instanceMethod ⟨"TurtleWorld$Machine", "finishMapped", "(II)I"⟩ ∈ tw_T := tw_i5 167 (by decide +kernel) (by decide +kernel)
theorem sel_Machine_finishMapped : Cond.selects "TurtleWorld$Machine" ⟨"TurtleWorld$Machine", "finishMapped", "(II)I"⟩ ⟨"TurtleWorld$Machine", "finishMapped", "(II)I"⟩ ∈ tw_T := tw_inS 49 (by decide +kernel) (by decide +kernel)
theorem lk_Machine_115 : Cond.methodLink "TurtleWorld$Machine" 115 ⟨"TurtleWorld$Machine", "fail", "(I)V"⟩ ∈ tw_T := tw_i5 176 (by decide +kernel) (by decide +kernel)
theorem hd_Machine_fail : y_Machine_fail.cls ≠ "java/lang/invoke/MethodHandle" ∧ y_Machine_fail.cls ≠ "java/lang/invoke/VarHandle" ∧ (parseMethodDescriptor y_Machine_fail.desc).map (fun d => d.parameters.length) = some 1 := by decide +kernel
theorem in_Machine_fail : Cond.instanceMethod ⟨"TurtleWorld$Machine", "fail", "(I)V"⟩ ∈ tw_T := tw_i5 178 (by decide +kernel) (by decide +kernel)
theorem sel_Machine_fail : Cond.selects "TurtleWorld$Machine" ⟨"TurtleWorld$Machine", "fail", "(I)V"⟩ ⟨"TurtleWorld$Machine", "fail", "(I)V"⟩ ∈ tw_T := tw_inS 51 (by decide +kernel) (by decide +kernel)
def m_Machine_stopCall (n : Nat) (g : Nat → Nat) (i : Nat → Int32) (a : Nat → Nat → Int32)  : Option ((Nat → Int32) × (Nat → Nat → Int32) × Int32) := ob0 (m_Line_callAt n g i a (0 : Int32)) (fun r_2 => if r_2 < ((0 : Int32)) then ob (m_Machine_finishLine n g i a (2 : Int32) (0 : Int32)) (fun i_5 a_6 r_7 => some (i_5, a_6, (-2147483584))) else ob (m_Machine_leaveGiving n g i a r_2 (-2147483648 : Int32)) (fun i_9 a_10 r_11 => some (i_9, a_10, r_11)))
set_option maxHeartbeats 4000000 in
set_option maxRecDepth 100000 in
theorem x_Machine_stopCall (l : Launch) (dC : Nat → ClassId) (dI : Nat → Nat → Nat) (cI : ClassId) (adK adV adA u o g : Nat → Nat) (sz : Nat) (n : Nat) {i : Nat → Int32} {a : Nat → Nat → Int32}  {i2 : Nat → Int32} {a2 : Nat → Nat → Int32} {r2 : Int32} (hm : m_Machine_stopCall n g i a = some (i2, a2, r2)) : Met l y_Machine_stopCall w_Machine_stopCall ({ frames := 3, cells := 0, slots := 0, locals := 65 } : Room) (va_Pc [.ref ((u 11))] (xE dC dI cI adK adV adA u o g i a sz)) (va_Qi (xR r2) (xB dC dI cI u o g i2 a2 (va_A (TW cI u o i a g) sz)) (va_A (TW cI u o i a g) sz)) 0 0 ((va_A (TW cI u o i a g) sz)) := by
  refine Met.ofW (cc := b_Machine_stopCall) (maxL := 2) (ret := (some .int)) (by decide) rfl ?_
  intro p e s m args below meth c s₁ B hml hv
  obtain ⟨rfl, hsz, hP, hK, hE, hD0⟩ := hv
  have hx := B.exec
  have hb := B.bytes
  have hr := B.returns
  have hts := atoms_spec (ws := w_Machine_stopCall) B.pre
  have htt : ∀ w ∈ tw_T, w.before _ s = true := fun w h => hts w (List.mem_cons_of_mem _ h)
  have hown : s.vm.findClass R_Machine = some m.cls := findClass_of_methodNamed B.named
  have hlocks := B.notSynchronized
  subst hsz
  have hD := hD0.self (sz := s.heap.size)
  generalize hAe : (va_A (TW cI u o i a g) s.heap.size) = A at hD hE ⊢
  have hA : ∀ q : Nat, s.heap.size ≤ q → A q := fun q h => by rw [← hAe]; exact Or.inr h
  have hS : va_S A s.heap s.heap [] := va_S.rf
  have hl := lv_entry ([.ref ((u 11))]) (n := 2) (Nat.le_of_ble_eq_true rfl)
  rw [lg_entry_eq]
  generalize (lg_sl ([.ref ((u 11))]) ++ List.replicate (2 - (lg_sl ([.ref ((u 11))])).length) Slot.unset).toArray = ls at hl ⊢
  have hl : lv_has ls 2 [(0, .ref ((u 11)))] := hl
  rw [m_Machine_stopCall] at hm
  refine lv_aload_n hx hb d_Machine_stopCall_0 rfl (lv_at hl 0 rfl) ?_
  refine va_get (D := (dC, dI)) (ci := 11) (v := .ref ((u 8))) (C := R_Machine) (T := F_Machine) (N := 9) hx hb htt iw_Machine hown hK hP 11 xo_11 rfl 1 (Nat.le_of_ble_eq_true rfl) (htt _ lk_Machine_18) (fun _ h9 => h9) xg_11_1 d_Machine_stopCall_1 ?_
  refine lv_iconst (v := 0) hx hb d_Machine_stopCall_4 (by decide) ?_
  obtain ⟨r_2, h_1, hm⟩ := ob0_some hm
  have hFc := x_free0 hS hA
  refine va_calli (va_runV (As := [.int 0]) (rest := []) ⟨hx, hb, hml, hown, hts⟩ (x_Line_callAt l dC dI cI adK adV adA u o g s.heap.size n h_1) (cwV 1 hts (tw_GV tw_cons cw_Line_callAt lk_Machine_401 in_Line_callAt sel_Line_callAt ini_Line) rfl rfl rfl ⟨rfl, hd_Line_callAt⟩ ⟨Nat.le_of_ble_eq_true rfl, Nat.le_of_ble_eq_true rfl⟩) (xpVr hK hP hS hE hFc xo_8 rfl) rfl rfl hl.1 rfl (lv_room (Nat.le_of_ble_eq_true rfl)) d_Machine_stopCall_5 ⟨Nat.le_of_ble_eq_true rfl, Nat.le_of_ble_eq_true rfl⟩) hS (fun q _ h => hFc q h) hFc (fun r9 u9 t9 H locs ht hvm e9 hB hz1 hk1 hS => ?_)
  have e9 : r_2 = r9 := e9
  subst e9
  replace hP := x_keep hP hk1
  clear hFc hk1 hz1 hvm hB ht
  refine lv_istore_n (lv' := [(1, .int r_2), (0, .ref ((u 11)))]) hx hb d_Machine_stopCall_8 rfl hl (by decide) rfl (fun ls hl => ?_)
  refine lv_iload_n hx hb d_Machine_stopCall_9 rfl (lv_at hl 0 rfl) ?_
  refine lv_if_lt (tgt := 21) hx hb d_Machine_stopCall_10 (by decide) (fun c_3 => ?_) (fun c_3 => ?_)
  · replace hm := if_t c_3 hm
    refine lv_aload_n hx hb d_Machine_stopCall_21 rfl (lv_at hl 1 rfl) ?_
    refine lv_iconst (v := 2) hx hb d_Machine_stopCall_22 (by decide) ?_
    refine lv_iconst (v := 0) hx hb d_Machine_stopCall_23 (by decide) ?_
    obtain ⟨i_5, a_6, r_7, h_4, hm⟩ := ob_some hm
    have hFc := x_free hD hS hA
    refine va_callv (va_runV (As := [.int 2, .int 0]) (rest := []) ⟨hx, hb, hml, hown, hts⟩ (x_Machine_finishLine l dC dI cI adK adV adA u o g H.size n h_4) (cwV 2 hts (tw_GV tw_cons cw_Machine_finishLine lk_Machine_106 in_Machine_finishLine sel_Machine_finishLine ini_Machine) rfl rfl rfl ⟨rfl, hd_Machine_finishLine⟩ ⟨Nat.le_of_ble_eq_true rfl, Nat.le_of_ble_eq_true rfl⟩) (xpV hK hP hD hS hE hFc xo_11 rfl) rfl rfl hl.1 rfl (lv_room (Nat.le_of_ble_eq_true rfl)) d_Machine_stopCall_24 ⟨Nat.le_of_ble_eq_true rfl, Nat.le_of_ble_eq_true rfl⟩) hS (fun q _ h => hFc q h) hFc (fun u9 t9 H locs ht hvm e9 hB hz1 hk1 hS => ?_)
    obtain ⟨hP, hD⟩ := x_aft hB ht hFc
    clear hFc hk1 hz1 hvm hB ht
    refine lv_ldc (v := (-2147483584)) hx hb hown (htt _ lk_Machine_110) d_Machine_stopCall_27 ?_
    obtain ⟨e1i, e1a, e3⟩ := re3 hm
    obtain ⟨hP, hD⟩ := x_eq e1i e1a hP hD
    exact W.iret hx hb hr (fun t9 ht hW => ⟨⟨_, (), rfl, e3.symm, by rw [ht]; exact hP, hD⟩, hS.F ht⟩) hS.2.2 d_Machine_stopCall_29
  · replace hm := if_f c_3 hm
    refine lv_aload_n hx hb d_Machine_stopCall_13 rfl (lv_at hl 1 rfl) ?_
    refine lv_iload_n hx hb d_Machine_stopCall_14 rfl (lv_at hl 0 rfl) ?_
    refine lv_ldc (v := (-2147483648)) hx hb hown (htt _ lk_Machine_114) d_Machine_stopCall_15 ?_
    obtain ⟨i_9, a_10, r_11, h_8, hm⟩ := ob_some hm
    have hFc := x_free hD hS hA
    refine va_calli (va_runV (As := [.int r_2, .int ((-2147483648))]) (rest := []) ⟨hx, hb, hml, hown, hts⟩ (x_Machine_leaveGiving l dC dI cI adK adV adA u o g H.size n h_8) (cwV 2 hts (tw_GV tw_cons cw_Machine_leaveGiving lk_Machine_264 in_Machine_leaveGiving sel_Machine_leaveGiving ini_Machine) rfl rfl rfl ⟨rfl, hd_Machine_leaveGiving⟩ ⟨Nat.le_of_ble_eq_true rfl, Nat.le_of_ble_eq_true rfl⟩) (xpV hK hP hD hS hE hFc xo_11 rfl) rfl rfl hl.1 rfl (lv_room (Nat.le_of_ble_eq_true rfl)) d_Machine_stopCall_17 ⟨Nat.le_of_ble_eq_true rfl, Nat.le_of_ble_eq_true rfl⟩) hS (fun q _ h => hFc q h) hFc (fun r9 u9 t9 H locs ht hvm e9 hB hz1 hk1 hS => ?_)
    have e9 : r_11 = r9 := e9
    subst e9
    obtain ⟨hP, hD⟩ := x_aft hB ht hFc
    clear hFc hk1 hz1 hvm hB ht
    obtain ⟨e1i, e1a, e3⟩ := re3 hm
    obtain ⟨hP, hD⟩ := x_eq e1i e1a hP hD
    exact W.iret hx hb hr (fun t9 ht hW => ⟨⟨_, (), rfl, e3.symm, by rw [ht]; exact hP, hD⟩, hS.F ht⟩) hS.2.2 d_Machine_stopCall_20

def m_Machine_leaveCall (n : Nat) (g : Nat → Nat) (i : Nat → Int32) (a : Nat → Nat → Int32) (v1 : Int32) : Option ((Nat → Int32) × (Nat → Nat → Int32) × Int32) := ob0 (m_Line_callAt n g i a (0 : Int32)) (fun r_2 => if ((0 : Int32)) ≤ r_2 then ob (m_Machine_leaveGiving n g i a r_2 v1) (fun i_5 a_6 r_7 => some (i_5, a_6, r_7)) else some (i, a, (-2147483636)))
set_option maxHeartbeats 4000000 in
set_option maxRecDepth 100000 in
theorem x_Machine_leaveCall (l : Launch) (dC : Nat → ClassId) (dI : Nat → Nat → Nat) (cI : ClassId) (adK adV adA u o g : Nat → Nat) (sz : Nat) (n : Nat) {i : Nat → Int32} {a : Nat → Nat → Int32} {v1 : Int32} {i2 : Nat → Int32} {a2 : Nat → Nat → Int32} {r2 : Int32} (hm : m_Machine_leaveCall n g i a v1 = some (i2, a2, r2)) : Met l y_Machine_leaveCall w_Machine_leaveCall ({ frames := 3, cells := 0, slots := 0, locals := 65 } : Room) (va_Pc [.ref ((u 11)), .int v1] (xE dC dI cI adK adV adA u o g i a sz)) (va_Qi (xR r2) (xB dC dI cI u o g i2 a2 (va_A (TW cI u o i a g) sz)) (va_A (TW cI u o i a g) sz)) 0 0 ((va_A (TW cI u o i a g) sz)) := by
  refine Met.ofW (cc := b_Machine_leaveCall) (maxL := 3) (ret := (some .int)) (by decide) rfl ?_
  intro p e s m args below meth c s₁ B hml hv
  obtain ⟨rfl, hsz, hP, hK, hE, hD0⟩ := hv
  have hx := B.exec
  have hb := B.bytes
  have hr := B.returns
  have hts := atoms_spec (ws := w_Machine_leaveCall) B.pre
  have htt : ∀ w ∈ tw_T, w.before _ s = true := fun w h => hts w (List.mem_cons_of_mem _ h)
  have hown : s.vm.findClass R_Machine = some m.cls := findClass_of_methodNamed B.named
  have hlocks := B.notSynchronized
  subst hsz
  have hD := hD0.self (sz := s.heap.size)
  generalize hAe : (va_A (TW cI u o i a g) s.heap.size) = A at hD hE ⊢
  have hA : ∀ q : Nat, s.heap.size ≤ q → A q := fun q h => by rw [← hAe]; exact Or.inr h
  have hS : va_S A s.heap s.heap [] := va_S.rf
  have hl := lv_entry ([.ref ((u 11)), .int v1]) (n := 3) (Nat.le_of_ble_eq_true rfl)
  rw [lg_entry_eq]
  generalize (lg_sl ([.ref ((u 11)), .int v1]) ++ List.replicate (3 - (lg_sl ([.ref ((u 11)), .int v1])).length) Slot.unset).toArray = ls at hl ⊢
  have hl : lv_has ls 3 [(0, .ref ((u 11))), (1, .int v1)] := hl
  rw [m_Machine_leaveCall] at hm
  refine lv_aload_n hx hb d_Machine_leaveCall_0 rfl (lv_at hl 0 rfl) ?_
  refine va_get (D := (dC, dI)) (ci := 11) (v := .ref ((u 8))) (C := R_Machine) (T := F_Machine) (N := 9) hx hb htt iw_Machine hown hK hP 11 xo_11 rfl 1 (Nat.le_of_ble_eq_true rfl) (htt _ lk_Machine_18) (fun _ h9 => h9) xg_11_1 d_Machine_leaveCall_1 ?_
  refine lv_iconst (v := 0) hx hb d_Machine_leaveCall_4 (by decide) ?_
  obtain ⟨r_2, h_1, hm⟩ := ob0_some hm
  have hFc := x_free0 hS hA
  refine va_calli (va_runV (As := [.int 0]) (rest := []) ⟨hx, hb, hml, hown, hts⟩ (x_Line_callAt l dC dI cI adK adV adA u o g s.heap.size n h_1) (cwV 1 hts (tw_GV tw_cons cw_Line_callAt lk_Machine_401 in_Line_callAt sel_Line_callAt ini_Line) rfl rfl rfl ⟨rfl, hd_Line_callAt⟩ ⟨Nat.le_of_ble_eq_true rfl, Nat.le_of_ble_eq_true rfl⟩) (xpVr hK hP hS hE hFc xo_8 rfl) rfl rfl hl.1 rfl (lv_room (Nat.le_of_ble_eq_true rfl)) d_Machine_leaveCall_5 ⟨Nat.le_of_ble_eq_true rfl, Nat.le_of_ble_eq_true rfl⟩) hS (fun q _ h => hFc q h) hFc (fun r9 u9 t9 H locs ht hvm e9 hB hz1 hk1 hS => ?_)
  have e9 : r_2 = r9 := e9
  subst e9
  replace hP := x_keep hP hk1
  clear hFc hk1 hz1 hvm hB ht
  refine lv_istore_n (lv' := [(2, .int r_2), (0, .ref ((u 11))), (1, .int v1)]) hx hb d_Machine_leaveCall_8 rfl hl (by decide) rfl (fun ls hl => ?_)
  refine lv_iload_n hx hb d_Machine_leaveCall_9 rfl (lv_at hl 0 rfl) ?_
  refine lv_if_ge (tgt := 19) hx hb d_Machine_leaveCall_10 (by decide) (fun c_3 => ?_) (fun c_3 => ?_)
  · replace hm := if_t c_3 hm
    refine lv_aload_n hx hb d_Machine_leaveCall_19 rfl (lv_at hl 1 rfl) ?_
    refine lv_iload_n hx hb d_Machine_leaveCall_20 rfl (lv_at hl 0 rfl) ?_
    refine lv_iload_n hx hb d_Machine_leaveCall_21 rfl (lv_at hl 2 rfl) ?_
    obtain ⟨i_5, a_6, r_7, h_4, hm⟩ := ob_some hm
    have hFc := x_free hD hS hA
    refine va_calli (va_runV (As := [.int r_2, .int v1]) (rest := []) ⟨hx, hb, hml, hown, hts⟩ (x_Machine_leaveGiving l dC dI cI adK adV adA u o g H.size n h_4) (cwV 2 hts (tw_GV tw_cons cw_Machine_leaveGiving lk_Machine_264 in_Machine_leaveGiving sel_Machine_leaveGiving ini_Machine) rfl rfl rfl ⟨rfl, hd_Machine_leaveGiving⟩ ⟨Nat.le_of_ble_eq_true rfl, Nat.le_of_ble_eq_true rfl⟩) (xpV hK hP hD hS hE hFc xo_11 rfl) rfl rfl hl.1 rfl (lv_room (Nat.le_of_ble_eq_true rfl)) d_Machine_leaveCall_22 ⟨Nat.le_of_ble_eq_true rfl, Nat.le_of_ble_eq_true rfl⟩) hS (fun q _ h => hFc q h) hFc (fun r9 u9 t9 H locs ht hvm e9 hB hz1 hk1 hS => ?_)
    have e9 : r_7 = r9 := e9
    subst e9
    obtain ⟨hP, hD⟩ := x_aft hB ht hFc
    clear hFc hk1 hz1 hvm hB ht
    obtain ⟨e1i, e1a, e3⟩ := re3 hm
    obtain ⟨hP, hD⟩ := x_eq e1i e1a hP hD
    exact W.iret hx hb hr (fun t9 ht hW => ⟨⟨_, (), rfl, e3.symm, by rw [ht]; exact hP, hD⟩, hS.F ht⟩) hS.2.2 d_Machine_leaveCall_25
  · replace hm := if_f c_3 hm
    refine lv_ldcw (v := (-2147483636)) hx hb hown (htt _ lk_Machine_404) d_Machine_leaveCall_13 ?_
    refine lv_goto (tgt := 25) hx hb d_Machine_leaveCall_16 (by decide) ?_
    obtain ⟨e1i, e1a, e3⟩ := re3 hm
    obtain ⟨hP, hD⟩ := x_eq e1i e1a hP hD
    exact W.iret hx hb hr (fun t9 ht hW => ⟨⟨_, (), rfl, e3.symm, by rw [ht]; exact hP, hD⟩, hS.F ht⟩) hS.2.2 d_Machine_leaveCall_25

def m_Machine_throwTo (n : Nat) (g : Nat → Nat) (i : Nat → Int32) (a : Nat → Nat → Int32) (v1 : Int32) : Option ((Nat → Int32) × (Nat → Nat → Int32) × Int32) := ob0 (m_Line_newestCatch n g i a v1) (fun r_2 => if ((0 : Int32)) ≤ r_2 then ob (m_Machine_leaveGiving n g i a r_2 (-2147483648 : Int32)) (fun i_5 a_6 r_7 => some (i_5, a_6, r_7)) else some (i, a, (-2147483637)))
set_option maxHeartbeats 4000000 in
set_option maxRecDepth 100000 in
theorem x_Machine_throwTo (l : Launch) (dC : Nat → ClassId) (dI : Nat → Nat → Nat) (cI : ClassId) (adK adV adA u o g : Nat → Nat) (sz : Nat) (n : Nat) {i : Nat → Int32} {a : Nat → Nat → Int32} {v1 : Int32} {i2 : Nat → Int32} {a2 : Nat → Nat → Int32} {r2 : Int32} (hm : m_Machine_throwTo n g i a v1 = some (i2, a2, r2)) : Met l y_Machine_throwTo w_Machine_throwTo ({ frames := 3, cells := 0, slots := 0, locals := 65 } : Room) (va_Pc [.ref ((u 11)), .int v1] (xE dC dI cI adK adV adA u o g i a sz)) (va_Qi (xR r2) (xB dC dI cI u o g i2 a2 (va_A (TW cI u o i a g) sz)) (va_A (TW cI u o i a g) sz)) 0 0 ((va_A (TW cI u o i a g) sz)) := by
  refine Met.ofW (cc := b_Machine_throwTo) (maxL := 3) (ret := (some .int)) (by decide) rfl ?_
  intro p e s m args below meth c s₁ B hml hv
  obtain ⟨rfl, hsz, hP, hK, hE, hD0⟩ := hv
  have hx := B.exec
  have hb := B.bytes
  have hr := B.returns
  have hts := atoms_spec (ws := w_Machine_throwTo) B.pre
  have htt : ∀ w ∈ tw_T, w.before _ s = true := fun w h => hts w (List.mem_cons_of_mem _ h)
  have hown : s.vm.findClass R_Machine = some m.cls := findClass_of_methodNamed B.named
  have hlocks := B.notSynchronized
  subst hsz
  have hD := hD0.self (sz := s.heap.size)
  generalize hAe : (va_A (TW cI u o i a g) s.heap.size) = A at hD hE ⊢
  have hA : ∀ q : Nat, s.heap.size ≤ q → A q := fun q h => by rw [← hAe]; exact Or.inr h
  have hS : va_S A s.heap s.heap [] := va_S.rf
  have hl := lv_entry ([.ref ((u 11)), .int v1]) (n := 3) (Nat.le_of_ble_eq_true rfl)
  rw [lg_entry_eq]
  generalize (lg_sl ([.ref ((u 11)), .int v1]) ++ List.replicate (3 - (lg_sl ([.ref ((u 11)), .int v1])).length) Slot.unset).toArray = ls at hl ⊢
  have hl : lv_has ls 3 [(0, .ref ((u 11))), (1, .int v1)] := hl
  rw [m_Machine_throwTo] at hm
  refine lv_aload_n hx hb d_Machine_throwTo_0 rfl (lv_at hl 0 rfl) ?_
  refine va_get (D := (dC, dI)) (ci := 11) (v := .ref ((u 8))) (C := R_Machine) (T := F_Machine) (N := 9) hx hb htt iw_Machine hown hK hP 11 xo_11 rfl 1 (Nat.le_of_ble_eq_true rfl) (htt _ lk_Machine_18) (fun _ h9 => h9) xg_11_1 d_Machine_throwTo_1 ?_
  refine lv_iload_n hx hb d_Machine_throwTo_4 rfl (lv_at hl 1 rfl) ?_
  obtain ⟨r_2, h_1, hm⟩ := ob0_some hm
  have hFc := x_free0 hS hA
  refine va_calli (va_runV (As := [.int v1]) (rest := []) ⟨hx, hb, hml, hown, hts⟩ (x_Line_newestCatch l dC dI cI adK adV adA u o g s.heap.size n h_1) (cwV 1 hts (tw_GV tw_cons cw_Line_newestCatch lk_Machine_123 in_Line_newestCatch sel_Line_newestCatch ini_Line) rfl rfl rfl ⟨rfl, hd_Line_newestCatch⟩ ⟨Nat.le_of_ble_eq_true rfl, Nat.le_of_ble_eq_true rfl⟩) (xpVr hK hP hS hE hFc xo_8 rfl) rfl rfl hl.1 rfl (lv_room (Nat.le_of_ble_eq_true rfl)) d_Machine_throwTo_5 ⟨Nat.le_of_ble_eq_true rfl, Nat.le_of_ble_eq_true rfl⟩) hS (fun q _ h => hFc q h) hFc (fun r9 u9 t9 H locs ht hvm e9 hB hz1 hk1 hS => ?_)
  have e9 : r_2 = r9 := e9
  subst e9
  replace hP := x_keep hP hk1
  clear hFc hk1 hz1 hvm hB ht
  refine lv_istore_n (lv' := [(2, .int r_2), (0, .ref ((u 11))), (1, .int v1)]) hx hb d_Machine_throwTo_8 rfl hl (by decide) rfl (fun ls hl => ?_)
  refine lv_iload_n hx hb d_Machine_throwTo_9 rfl (lv_at hl 0 rfl) ?_
  refine lv_if_ge (tgt := 19) hx hb d_Machine_throwTo_10 (by decide) (fun c_3 => ?_) (fun c_3 => ?_)
  · replace hm := if_t c_3 hm
    refine lv_aload_n hx hb d_Machine_throwTo_19 rfl (lv_at hl 1 rfl) ?_
    refine lv_iload_n hx hb d_Machine_throwTo_20 rfl (lv_at hl 0 rfl) ?_
    refine lv_ldc (v := (-2147483648)) hx hb hown (htt _ lk_Machine_114) d_Machine_throwTo_21 ?_
    obtain ⟨i_5, a_6, r_7, h_4, hm⟩ := ob_some hm
    have hFc := x_free hD hS hA
    refine va_calli (va_runV (As := [.int r_2, .int ((-2147483648))]) (rest := []) ⟨hx, hb, hml, hown, hts⟩ (x_Machine_leaveGiving l dC dI cI adK adV adA u o g H.size n h_4) (cwV 2 hts (tw_GV tw_cons cw_Machine_leaveGiving lk_Machine_264 in_Machine_leaveGiving sel_Machine_leaveGiving ini_Machine) rfl rfl rfl ⟨rfl, hd_Machine_leaveGiving⟩ ⟨Nat.le_of_ble_eq_true rfl, Nat.le_of_ble_eq_true rfl⟩) (xpV hK hP hD hS hE hFc xo_11 rfl) rfl rfl hl.1 rfl (lv_room (Nat.le_of_ble_eq_true rfl)) d_Machine_throwTo_23 ⟨Nat.le_of_ble_eq_true rfl, Nat.le_of_ble_eq_true rfl⟩) hS (fun q _ h => hFc q h) hFc (fun r9 u9 t9 H locs ht hvm e9 hB hz1 hk1 hS => ?_)
    have e9 : r_7 = r9 := e9
    subst e9
    obtain ⟨hP, hD⟩ := x_aft hB ht hFc
    clear hFc hk1 hz1 hvm hB ht
    obtain ⟨e1i, e1a, e3⟩ := re3 hm
    obtain ⟨hP, hD⟩ := x_eq e1i e1a hP hD
    exact W.iret hx hb hr (fun t9 ht hW => ⟨⟨_, (), rfl, e3.symm, by rw [ht]; exact hP, hD⟩, hS.F ht⟩) hS.2.2 d_Machine_throwTo_26
  · replace hm := if_f c_3 hm
    refine lv_ldcw (v := (-2147483637)) hx hb hown (htt _ lk_Machine_405) d_Machine_throwTo_13 ?_
    refine lv_goto (tgt := 26) hx hb d_Machine_throwTo_16 (by decide) ?_
    obtain ⟨e1i, e1a, e3⟩ := re3 hm
    obtain ⟨hP, hD⟩ := x_eq e1i e1a hP hD
    exact W.iret hx hb hr (fun t9 ht hW => ⟨⟨_, (), rfl, e3.symm, by rw [ht]; exact hP, hD⟩, hS.F ht⟩) hS.2.2 d_Machine_throwTo_26

def m_World_stop (n : Nat) (g : Nat → Nat) (i : Nat → Int32) (a : Nat → Nat → Int32)  : Option ((Nat → Int32) × (Nat → Nat → Int32) × Int32) := if ((i 35)) = ((1 : Int32)) then ob (m_Machine_finishLine n g i a (4 : Int32) (0 : Int32)) (fun i_3 a_4 r_5 => some (i_3, a_4, 1)) else some (i, a, 0)
set_option maxHeartbeats 4000000 in
set_option maxRecDepth 100000 in
theorem x_World_stop (l : Launch) (dC : Nat → ClassId) (dI : Nat → Nat → Nat) (cI : ClassId) (adK adV adA u o g : Nat → Nat) (sz : Nat) (n : Nat) {i : Nat → Int32} {a : Nat → Nat → Int32}  {i2 : Nat → Int32} {a2 : Nat → Nat → Int32} {r2 : Int32} (hm : m_World_stop n g i a = some (i2, a2, r2)) : Met l y_World_stop w_World_stop ({ frames := 3, cells := 0, slots := 0, locals := 65 } : Room) (va_Pc [.ref ((u 0))] (xE dC dI cI adK adV adA u o g i a sz)) (va_Qi (xR r2) (xB dC dI cI u o g i2 a2 (va_A (TW cI u o i a g) sz)) (va_A (TW cI u o i a g) sz)) 0 0 ((va_A (TW cI u o i a g) sz)) := by
  refine Met.ofW (cc := b_World_stop) (maxL := 1) (ret := (some .boolean)) (by decide) rfl ?_
  intro p e s m args below meth c s₁ B hml hv
  obtain ⟨rfl, hsz, hP, hK, hE, hD0⟩ := hv
  have hx := B.exec
  have hb := B.bytes
  have hr := B.returns
  have hts := atoms_spec (ws := w_World_stop) B.pre
  have htt : ∀ w ∈ tw_T, w.before _ s = true := fun w h => hts w (List.mem_cons_of_mem _ h)
  have hown : s.vm.findClass R_World = some m.cls := findClass_of_methodNamed B.named
  have hlocks := B.notSynchronized
  subst hsz
  have hD := hD0.self (sz := s.heap.size)
  generalize hAe : (va_A (TW cI u o i a g) s.heap.size) = A at hD hE ⊢
  have hA : ∀ q : Nat, s.heap.size ≤ q → A q := fun q h => by rw [← hAe]; exact Or.inr h
  have hS : va_S A s.heap s.heap [] := va_S.rf
  have hl := lv_entry ([.ref ((u 0))]) (n := 1) (Nat.le_of_ble_eq_true rfl)
  rw [lg_entry_eq]
  generalize (lg_sl ([.ref ((u 0))]) ++ List.replicate (1 - (lg_sl ([.ref ((u 0))])).length) Slot.unset).toArray = ls at hl ⊢
  have hl : lv_has ls 1 [(0, .ref ((u 0)))] := hl
  rw [m_World_stop] at hm
  refine lv_aload_n hx hb d_World_stop_0 rfl (lv_at hl 0 rfl) ?_
  refine va_get (D := (dC, dI)) (ci := 0) (v := .ref ((u 8))) (C := R_World) (T := F_World) (N := 13) hx hb htt iw_World hown hK hP 0 xo_0 rfl 6 (Nat.le_of_ble_eq_true rfl) (htt _ lk_World_63) (fun _ h9 => h9) xg_0_6 d_World_stop_1 ?_
  refine va_get (D := (dC, dI)) (ci := 8) (v := .int (i 35)) (C := R_Line) (T := F_Line) (N := 18) hx hb htt iw_Line hown hK hP 8 xo_8 rfl 1 (Nat.le_of_ble_eq_true rfl) (htt _ lk_World_100) (fun _ h9 => h9) xg_8_1 d_World_stop_4 ?_
  refine lv_iconst (v := 1) hx hb d_World_stop_7 (by decide) ?_
  refine lv_icmp_eq (tgt := 13) hx hb d_World_stop_8 (by decide) (fun c_1 => ?_) (fun c_1 => ?_)
  · replace hm := if_t c_1 hm
    refine lv_aload_n hx hb d_World_stop_13 rfl (lv_at hl 0 rfl) ?_
    refine va_get (D := (dC, dI)) (ci := 0) (v := .ref ((u 11))) (C := R_World) (T := F_World) (N := 13) hx hb htt iw_World hown hK hP 0 xo_0 rfl 8 (Nat.le_of_ble_eq_true rfl) (htt _ lk_World_84) (fun _ h9 => h9) xg_0_8 d_World_stop_14 ?_
    refine lv_iconst (v := 4) hx hb d_World_stop_17 (by decide) ?_
    refine lv_iconst (v := 0) hx hb d_World_stop_18 (by decide) ?_
    obtain ⟨i_3, a_4, r_5, h_2, hm⟩ := ob_some hm
    have hFc := x_free hD hS hA
    refine va_callv (va_runV (As := [.int 4, .int 0]) (rest := []) ⟨hx, hb, hml, hown, hts⟩ (x_Machine_finishLine l dC dI cI adK adV adA u o g s.heap.size n h_2) (cwV 2 hts (tw_GV tw_cons cw_Machine_finishLine lk_World_147 in_Machine_finishLine sel_Machine_finishLine ini_Machine) rfl rfl rfl ⟨rfl, hd_Machine_finishLine⟩ ⟨Nat.le_of_ble_eq_true rfl, Nat.le_of_ble_eq_true rfl⟩) (xpV hK hP hD hS hE hFc xo_11 rfl) rfl rfl hl.1 rfl (lv_room (Nat.le_of_ble_eq_true rfl)) d_World_stop_19 ⟨Nat.le_of_ble_eq_true rfl, Nat.le_of_ble_eq_true rfl⟩) hS (fun q _ h => hFc q h) hFc (fun u9 t9 H locs ht hvm e9 hB hz1 hk1 hS => ?_)
    obtain ⟨hP, hD⟩ := x_aft hB ht hFc
    clear hFc hk1 hz1 hvm hB ht
    refine lv_iconst (v := 1) hx hb d_World_stop_22 (by decide) ?_
    obtain ⟨e1i, e1a, e3⟩ := re3 hm
    obtain ⟨hP, hD⟩ := x_eq e1i e1a hP hD
    exact W.zret hx hb hr (by decide) (fun t9 ht hW => ⟨⟨_, (), rfl, e3.symm, by rw [ht]; exact hP, hD⟩, hS.F ht⟩) hS.2.2 d_World_stop_23
  · replace hm := if_f c_1 hm
    refine lv_iconst (v := 0) hx hb d_World_stop_11 (by decide) ?_
    obtain ⟨e1i, e1a, e3⟩ := re3 hm
    obtain ⟨hP, hD⟩ := x_eq e1i e1a hP hD
    exact W.zret hx hb hr (by decide) (fun t9 ht hW => ⟨⟨_, (), rfl, e3.symm, by rw [ht]; exact hP, hD⟩, hS.F ht⟩) hS.2.2 d_World_stop_12

def m_World_value (n : Nat) (g : Nat → Nat) (i : Nat → Int32) (a : Nat → Nat → Int32) (v1 : Int32) (v2 : Int32) : Option ((Nat → Int32) × (Nat → Nat → Int32) × Int32) := ob0 (m_Names_globalValue n g i a v1) (fun r_2 => if r_2 = ((-2147483648 : Int32)) then some (i, a, (-1)) else ob (m_Output_begin n g i a) (fun i_5 a_6 r_7 => ob (m_Output_addShown n g i_5 a_6 r_2 (0 : Int32)) (fun i_9 a_10 r_11 => ob0 (m_Output_signAt n g i_9 a_10 v2) (fun r_13 => some (i_9, a_10, r_13)))))
set_option maxHeartbeats 4000000 in
set_option maxRecDepth 100000 in
theorem x_World_value (l : Launch) (dC : Nat → ClassId) (dI : Nat → Nat → Nat) (cI : ClassId) (adK adV adA u o g : Nat → Nat) (sz : Nat) (n : Nat) {i : Nat → Int32} {a : Nat → Nat → Int32} {v1 : Int32} {v2 : Int32} {i2 : Nat → Int32} {a2 : Nat → Nat → Int32} {r2 : Int32} (hm : m_World_value n g i a v1 v2 = some (i2, a2, r2)) : Met l y_World_value w_World_value ({ frames := 3, cells := 0, slots := 0, locals := 76 } : Room) (va_Pc [.ref ((u 0)), .int v1, .int v2] (xE dC dI cI adK adV adA u o g i a sz)) (va_Qi (xR r2) (xB dC dI cI u o g i2 a2 (va_A (TW cI u o i a g) sz)) (va_A (TW cI u o i a g) sz)) 0 0 ((va_A (TW cI u o i a g) sz)) := by
  refine Met.ofW (cc := b_World_value) (maxL := 4) (ret := (some .int)) (by decide) rfl ?_
  intro p e s m args below meth c s₁ B hml hv
  obtain ⟨rfl, hsz, hP, hK, hE, hD0⟩ := hv
  have hx := B.exec
  have hb := B.bytes
  have hr := B.returns
  have hts := atoms_spec (ws := w_World_value) B.pre
  have htt : ∀ w ∈ tw_T, w.before _ s = true := fun w h => hts w (List.mem_cons_of_mem _ h)
  have hown : s.vm.findClass R_World = some m.cls := findClass_of_methodNamed B.named
  have hlocks := B.notSynchronized
  subst hsz
  have hD := hD0.self (sz := s.heap.size)
  generalize hAe : (va_A (TW cI u o i a g) s.heap.size) = A at hD hE ⊢
  have hA : ∀ q : Nat, s.heap.size ≤ q → A q := fun q h => by rw [← hAe]; exact Or.inr h
  have hS : va_S A s.heap s.heap [] := va_S.rf
  have hl := lv_entry ([.ref ((u 0)), .int v1, .int v2]) (n := 4) (Nat.le_of_ble_eq_true rfl)
  rw [lg_entry_eq]
  generalize (lg_sl ([.ref ((u 0)), .int v1, .int v2]) ++ List.replicate (4 - (lg_sl ([.ref ((u 0)), .int v1, .int v2])).length) Slot.unset).toArray = ls at hl ⊢
  have hl : lv_has ls 4 [(0, .ref ((u 0))), (1, .int v1), (2, .int v2)] := hl
  rw [m_World_value] at hm
  refine lv_aload_n hx hb d_World_value_0 rfl (lv_at hl 0 rfl) ?_
  refine va_get (D := (dC, dI)) (ci := 0) (v := .ref ((u 3))) (C := R_World) (T := F_World) (N := 13) hx hb htt iw_World hown hK hP 0 xo_0 rfl 1 (Nat.le_of_ble_eq_true rfl) (htt _ lk_World_26) (fun _ h9 => h9) xg_0_1 d_World_value_1 ?_
  refine lv_iload_n hx hb d_World_value_4 rfl (lv_at hl 1 rfl) ?_
  obtain ⟨r_2, h_1, hm⟩ := ob0_some hm
  have hFc := x_free0 hS hA
  refine va_calli (va_runV (As := [.int v1]) (rest := []) ⟨hx, hb, hml, hown, hts⟩ (x_Names_globalValue l dC dI cI adK adV adA u o g s.heap.size n h_1) (cwV 1 hts (tw_GV tw_cons cw_Names_globalValue lk_World_212 in_Names_globalValue sel_Names_globalValue ini_Names) rfl rfl rfl ⟨rfl, hd_Names_globalValue⟩ ⟨Nat.le_of_ble_eq_true rfl, Nat.le_of_ble_eq_true rfl⟩) (xpVr hK hP hS hE hFc xo_3 rfl) rfl rfl hl.1 rfl (lv_room (Nat.le_of_ble_eq_true rfl)) d_World_value_5 ⟨Nat.le_of_ble_eq_true rfl, Nat.le_of_ble_eq_true rfl⟩) hS (fun q _ h => hFc q h) hFc (fun r9 u9 t9 H locs ht hvm e9 hB hz1 hk1 hS => ?_)
  have e9 : r_2 = r9 := e9
  subst e9
  replace hP := x_keep hP hk1
  clear hFc hk1 hz1 hvm hB ht
  refine lv_istore_n (lv' := [(3, .int r_2), (0, .ref ((u 0))), (1, .int v1), (2, .int v2)]) hx hb d_World_value_8 rfl hl (by decide) rfl (fun ls hl => ?_)
  refine lv_iload_n hx hb d_World_value_9 rfl (lv_at hl 0 rfl) ?_
  refine lv_ldc (v := (-2147483648)) hx hb hown (htt _ lk_World_215) d_World_value_10 ?_
  refine lv_icmp_ne (tgt := 17) hx hb d_World_value_12 (by decide) (fun c_3 => ?_) (fun c_3 => ?_)
  · replace hm := if_f c_3 hm
    refine lv_aload_n hx hb d_World_value_17 rfl (lv_at hl 1 rfl) ?_
    refine va_get (D := (dC, dI)) (ci := 0) (v := .ref ((u 6))) (C := R_World) (T := F_World) (N := 13) hx hb htt iw_World hown hK hP 0 xo_0 rfl 4 (Nat.le_of_ble_eq_true rfl) (htt _ lk_World_47) (fun _ h9 => h9) xg_0_4 d_World_value_18 ?_
    obtain ⟨i_5, a_6, r_7, h_4, hm⟩ := ob_some hm
    have hFc := x_free hD hS hA
    refine va_callv (va_runV (As := []) (rest := []) ⟨hx, hb, hml, hown, hts⟩ (x_Output_begin l dC dI cI adK adV adA u o g H.size n h_4) (cwV 0 hts (tw_GV tw_cons cw_Output_begin lk_World_216 in_Output_begin sel_Output_begin ini_Output) rfl rfl rfl ⟨rfl, hd_Output_begin⟩ ⟨Nat.le_of_ble_eq_true rfl, Nat.le_of_ble_eq_true rfl⟩) (xpV hK hP hD hS hE hFc xo_6 rfl) rfl rfl hl.1 rfl (lv_room (Nat.le_of_ble_eq_true rfl)) d_World_value_21 ⟨Nat.le_of_ble_eq_true rfl, Nat.le_of_ble_eq_true rfl⟩) hS (fun q _ h => hFc q h) hFc (fun u9 t9 H locs ht hvm e9 hB hz1 hk1 hS => ?_)
    obtain ⟨hP, hD⟩ := x_aft hB ht hFc
    clear hFc hk1 hz1 hvm hB ht
    refine lv_aload_n hx hb d_World_value_24 rfl (lv_at hl 1 rfl) ?_
    refine va_get (D := (dC, dI)) (ci := 0) (v := .ref ((u 6))) (C := R_World) (T := F_World) (N := 13) hx hb htt iw_World hown hK hP 0 xo_0 rfl 4 (Nat.le_of_ble_eq_true rfl) (htt _ lk_World_47) (fun _ h9 => h9) xg_0_4 d_World_value_25 ?_
    refine lv_iload_n hx hb d_World_value_28 rfl (lv_at hl 0 rfl) ?_
    refine lv_iconst (v := 0) hx hb d_World_value_29 (by decide) ?_
    obtain ⟨i_9, a_10, r_11, h_8, hm⟩ := ob_some hm
    have hFc := x_free hD hS hA
    refine va_callv (va_runV (As := [.int r_2, .int 0]) (rest := []) ⟨hx, hb, hml, hown, hts⟩ (x_Output_addShown l dC dI cI adK adV adA u o g H.size n h_8) (cwV 2 hts (tw_GV tw_cons cw_Output_addShown lk_World_218 in_Output_addShown sel_Output_addShown ini_Output) rfl rfl rfl ⟨rfl, hd_Output_addShown⟩ ⟨Nat.le_of_ble_eq_true rfl, Nat.le_of_ble_eq_true rfl⟩) (xpV hK hP hD hS hE hFc xo_6 rfl) rfl rfl hl.1 rfl (lv_room (Nat.le_of_ble_eq_true rfl)) d_World_value_30 ⟨Nat.le_of_ble_eq_true rfl, Nat.le_of_ble_eq_true rfl⟩) hS (fun q _ h => hFc q h) hFc (fun u9 t9 H locs ht hvm e9 hB hz1 hk1 hS => ?_)
    obtain ⟨hP, hD⟩ := x_aft hB ht hFc
    clear hFc hk1 hz1 hvm hB ht
    refine lv_aload_n hx hb d_World_value_33 rfl (lv_at hl 1 rfl) ?_
    refine va_get (D := (dC, dI)) (ci := 0) (v := .ref ((u 6))) (C := R_World) (T := F_World) (N := 13) hx hb htt iw_World hown hK hP 0 xo_0 rfl 4 (Nat.le_of_ble_eq_true rfl) (htt _ lk_World_47) (fun _ h9 => h9) xg_0_4 d_World_value_34 ?_
    refine lv_iload_n hx hb d_World_value_37 rfl (lv_at hl 3 rfl) ?_
    obtain ⟨r_13, h_12, hm⟩ := ob0_some hm
    have hFc := x_free0 hS hA
    refine va_calli (va_runV (As := [.int v2]) (rest := []) ⟨hx, hb, hml, hown, hts⟩ (x_Output_signAt l dC dI cI adK adV adA u o g H.size n h_12) (cwV 1 hts (tw_GV tw_cons cw_Output_signAt lk_World_222 in_Output_signAt sel_Output_signAt ini_Output) rfl rfl rfl ⟨rfl, hd_Output_signAt⟩ ⟨Nat.le_of_ble_eq_true rfl, Nat.le_of_ble_eq_true rfl⟩) (xpVr hK hP hS hE hFc xo_6 rfl) rfl rfl hl.1 rfl (lv_room (Nat.le_of_ble_eq_true rfl)) d_World_value_38 ⟨Nat.le_of_ble_eq_true rfl, Nat.le_of_ble_eq_true rfl⟩) hS (fun q _ h => hFc q h) hFc (fun r9 u9 t9 H locs ht hvm e9 hB hz1 hk1 hS => ?_)
    have e9 : r_13 = r9 := e9
    subst e9
    replace hP := x_keep hP hk1
    clear hFc hk1 hz1 hvm hB ht
    obtain ⟨e1i, e1a, e3⟩ := re3 hm
    obtain ⟨hP, hD⟩ := x_eq e1i e1a hP hD
    exact W.iret hx hb hr (fun t9 ht hW => ⟨⟨_, (), rfl, e3.symm, by rw [ht]; exact hP, hD⟩, hS.F ht⟩) hS.2.2 d_World_value_41
  · replace hm := if_t c_3 hm
    refine lv_iconst (v := -1) hx hb d_World_value_15 (by decide) ?_
    obtain ⟨e1i, e1a, e3⟩ := re3 hm
    obtain ⟨hP, hD⟩ := x_eq e1i e1a hP hD
    exact W.iret hx hb hr (fun t9 ht hW => ⟨⟨_, (), rfl, e3.symm, by rw [ht]; exact hP, hD⟩, hS.F ht⟩) hS.2.2 d_World_value_16

def m_Reader_openList_b53 (n : Nat) (i : Nat → Int32) (a : Nat → Nat → Int32) (g : Nat → Nat) (v1 : Int32) : Option ((Nat → Int32) × (Nat → Nat → Int32) × (Nat → Nat) × (Nat × Nat) × Int32) := if ((i 32)) = ((0 : Int32)) then ob (m_Reader_blame n g i a (7 : Int32) v1) (fun i_9 a_10 r_11 => some (i_9, a_10, g, (0, 0), (0 : Int32))) else ob (m_Reader_blame n g i a (8 : Int32) v1) (fun i_3 a_4 r_5 => some (i_3, a_4, g, (0, 0), (0 : Int32)))
set_option maxHeartbeats 4000000 in
set_option maxRecDepth 100000 in
theorem lb_Reader_openList_53 (l : Launch) (dC : Nat → ClassId) (dI : Nat → Nat → Nat) (cI : ClassId) (adK adV adA u : Nat → Nat) (n : Nat) {p : Program} {e : Env} {s : State} {m : MethodId} {args : Array Value} {below : List Frame} {meth : Method} {c : Code} {A : Nat → Prop} (hx : p.tables.exec = Jvm.exec) (hb : c.code = b_Reader_openList) (hml : c.maxLocals = 2) (hown : s.vm.findClass R_Reader = some m.cls) (hts : ∀ w ∈ w_Reader_openList, w.before args s = true) (hK : va_K (dC, dI) classes [(cI, .int)] s) (hE : tw_E adK adV adA A s s.heap) (hA : ∀ q : Nat, s.heap.size ≤ q → A q) (hr : meth.sig.returnType = none) (hlocks : meth.locks = false) {mc ms : Nat} {i2 : Nat → Int32} {a2 : Nat → Nat → Int32} {g2 : Nat → Nat} {r2 : Int32} (i : Nat → Int32) (a : Nat → Nat → Int32) (g : Nat → Nat) (v1 : Int32) (k2 : Nat × Nat) (hm : m_Reader_openList_b53 n i a g v1 = some (i2, a2, g2, k2, r2)) : ∀ (o : Nat → Nat) (kc ks : Nat), kc + k2.1 = mc → ks + k2.2 = ms → ∀ (H : Heap) (locs : List Loc) (ls : Array Slot), va_P (dC, dI) classes (TW cI u o i a g) H → va_D A (TW cI u o i a g) → va_S A s.heap H locs → lv_has ls 2 [(0, .ref ((u 7))), (1, .int v1)] → W p l e ({ frames := 6, cells := mc, slots := ms, locals := 152 } : Room) s m args below meth c H locs kc ks (MQ below (va_Qv xVg (xBg dC dI cI u g2 i2 a2 A) A) args s mc ms A) (F0 m 53 ls []) := by
  have htt : ∀ w ∈ tw_T, w.before _ s = true := fun w h => hts w (List.mem_cons_of_mem _ h)
  intro o kc ks hkc hks H locs ls hP hD hS hl
  rw [m_Reader_openList_b53] at hm
  refine lv_aload_n hx hb d_Reader_openList_53 rfl (lv_at hl 0 rfl) ?_
  refine lv_aload_n hx hb d_Reader_openList_54 rfl (lv_at hl 0 rfl) ?_
  refine va_get (D := (dC, dI)) (ci := 7) (v := .int (i 32)) (C := R_Reader) (T := F_Reader) (N := 19) hx hb htt iw_Reader hown hK hP 7 xo_7 rfl 13 (Nat.le_of_ble_eq_true rfl) (htt _ lk_Reader_72) (fun _ h9 => h9) xg_7_13 d_Reader_openList_55 ?_
  refine lv_if_ne (tgt := 66) hx hb d_Reader_openList_58 (by decide) (fun c_1 => ?_) (fun c_1 => ?_)
  · replace hm := if_f c_1 hm
    refine lv_bipush (v := 8) hx hb d_Reader_openList_66 (by decide) ?_
    refine lv_iload_n hx hb d_Reader_openList_68 rfl (lv_at hl 1 rfl) ?_
    obtain ⟨i_3, a_4, r_5, h_2, hm⟩ := ob_some hm
    have hFc := x_free hD hS hA
    refine xg_callv (va_runV (As := [.int 8, .int v1]) (rest := []) ⟨hx, hb, hml, hown, hts⟩ (x_Reader_blame l dC dI cI adK adV adA u o g H.size n h_2) (cwV 2 hts (tw_GV tw_cons cw_Reader_blame lk_Reader_54 in_Reader_blame sel_Reader_blame ini_Reader) rfl rfl rfl ⟨rfl, hd_Reader_blame⟩ ⟨Nat.le_of_ble_eq_true rfl, Nat.le_of_ble_eq_true rfl⟩) (xpV hK hP hD hS hE hFc xo_7 rfl) rfl rfl hl.1 rfl (lv_room (Nat.le_of_ble_eq_true rfl)) d_Reader_openList_69 ⟨show kc + 0 ≤ mc by omega, show ks + 0 ≤ ms by omega⟩) hS (fun q _ h => hFc q h) hFc (fun kc_6 ks_7 u9 t9 H locs ekc eks ht hvm e9 hB hz1 hk1 hS => ?_)
    replace hkc : kc_6 + k2.1 = mc := by omega
    replace hks : ks_7 + k2.2 = ms := by omega
    clear ekc eks
    obtain ⟨hP, hD⟩ := x_aft hB ht hFc
    clear hFc hk1 hz1 hvm hB ht
    refine lv_goto (tgt := 102) hx hb d_Reader_openList_72 (by decide) ?_
    obtain ⟨e1, e2, e4, e5, e6, e3⟩ := re5 hm
    obtain ⟨hP, hD⟩ := x_eqg e1 e2 e4 hP hD
    refine W.widen (k := mc) (n := ms) (show kc_6 ≤ mc by omega) (show ks_7 ≤ ms by omega) ?_
    exact W.vret hx hb hr (fun t9 ht hW => ⟨⟨o, rfl, trivial, by rw [ht]; exact hP, hD⟩, hS.F ht⟩) hS.2.2 d_Reader_openList_102
  · replace hm := if_t c_1 hm
    refine lv_bipush (v := 7) hx hb d_Reader_openList_61 (by decide) ?_
    refine lv_goto (tgt := 68) hx hb d_Reader_openList_63 (by decide) ?_
    refine lv_iload_n hx hb d_Reader_openList_68 rfl (lv_at hl 1 rfl) ?_
    obtain ⟨i_9, a_10, r_11, h_8, hm⟩ := ob_some hm
    have hFc := x_free hD hS hA
    refine xg_callv (va_runV (As := [.int 7, .int v1]) (rest := []) ⟨hx, hb, hml, hown, hts⟩ (x_Reader_blame l dC dI cI adK adV adA u o g H.size n h_8) (cwV 2 hts (tw_GV tw_cons cw_Reader_blame lk_Reader_54 in_Reader_blame sel_Reader_blame ini_Reader) rfl rfl rfl ⟨rfl, hd_Reader_blame⟩ ⟨Nat.le_of_ble_eq_true rfl, Nat.le_of_ble_eq_true rfl⟩) (xpV hK hP hD hS hE hFc xo_7 rfl) rfl rfl hl.1 rfl (lv_room (Nat.le_of_ble_eq_true rfl)) d_Reader_openList_69 ⟨show kc + 0 ≤ mc by omega, show ks + 0 ≤ ms by omega⟩) hS (fun q _ h => hFc q h) hFc (fun kc_12 ks_13 u9 t9 H locs ekc eks ht hvm e9 hB hz1 hk1 hS => ?_)
    replace hkc : kc_12 + k2.1 = mc := by omega
    replace hks : ks_13 + k2.2 = ms := by omega
    clear ekc eks
    obtain ⟨hP, hD⟩ := x_aft hB ht hFc
    clear hFc hk1 hz1 hvm hB ht
    refine lv_goto (tgt := 102) hx hb d_Reader_openList_72 (by decide) ?_
    obtain ⟨e1, e2, e4, e5, e6, e3⟩ := re5 hm
    obtain ⟨hP, hD⟩ := x_eqg e1 e2 e4 hP hD
    refine W.widen (k := mc) (n := ms) (show kc_12 ≤ mc by omega) (show ks_13 ≤ ms by omega) ?_
    exact W.vret hx hb hr (fun t9 ht hW => ⟨⟨o, rfl, trivial, by rw [ht]; exact hP, hD⟩, hS.F ht⟩) hS.2.2 d_Reader_openList_102
def m_Reader_openList (n : Nat) (g : Nat → Nat) (i : Nat → Int32) (a : Nat → Nat → Int32) (v1 : Int32) : Option ((Nat → Int32) × (Nat → Nat → Int32) × (Nat → Nat) × (Nat × Nat) × Int32) := if ((i 29)) < ((20 : Int32)) then if ((i 30)) ≤ ((600 : Int32)) then if ((i 32)) = ((0 : Int32)) then m_Reader_openList_b53 n i a g v1 else if ((i 32)) = ((1 : Int32)) then m_Reader_openList_b53 n i a g v1 else obG (m_Reader_closeInputs n g i a) (fun i_6 a_7 g_8 r_10 => ck ((i_6 29)) 20 (ob1 (sv a_7 33 (i_6 29).toNatClampNeg (i_6 28) : Nat → Nat → Int32) (fun a_16 => ob1 ((i_6 29) + 1 : Int32) (fun x_17 => ob1 (upd i_6 29 x_17 : Nat → Int32) (fun i_18 => some (i_18, a_16, g_8, (0, 0), (0 : Int32))))))) else ob (m_Reader_blame n g i a (6 : Int32) v1) (fun i_20 a_21 r_22 => some (i_20, a_21, g, (0, 0), (0 : Int32))) else ob (m_Reader_blame n g i a (5 : Int32) v1) (fun i_26 a_27 r_28 => some (i_26, a_27, g, (0, 0), (0 : Int32)))
set_option maxHeartbeats 4000000 in
set_option maxRecDepth 100000 in
theorem x_Reader_openList (l : Launch) (dC : Nat → ClassId) (dI : Nat → Nat → Nat) (cI : ClassId) (adK adV adA u o g : Nat → Nat) (sz : Nat) (n : Nat) {i : Nat → Int32} {a : Nat → Nat → Int32} {v1 : Int32} {i2 : Nat → Int32} {a2 : Nat → Nat → Int32} {g2 : Nat → Nat} {k2 : Nat × Nat} {r2 : Int32} (hm : m_Reader_openList n g i a v1 = some (i2, a2, g2, k2, r2)) : Met l y_Reader_openList w_Reader_openList ({ frames := 6, cells := k2.1, slots := k2.2, locals := 152 } : Room) (va_Pc [.ref ((u 7)), .int v1] (xE dC dI cI adK adV adA u o g i a sz)) (va_Qv xVg (xBg dC dI cI u g2 i2 a2 (va_A (TW cI u o i a g) sz)) (va_A (TW cI u o i a g) sz)) k2.1 k2.2 ((va_A (TW cI u o i a g) sz)) := by
  refine Met.ofW (cc := b_Reader_openList) (maxL := 2) (ret := none) (by decide) rfl ?_
  intro p e s m args below meth c s₁ B hml hv
  obtain ⟨rfl, hsz, hP, hK, hE, hD0⟩ := hv
  have hx := B.exec
  have hb := B.bytes
  have hr := B.returns
  have hts := atoms_spec (ws := w_Reader_openList) B.pre
  have htt : ∀ w ∈ tw_T, w.before _ s = true := fun w h => hts w (List.mem_cons_of_mem _ h)
  have hown : s.vm.findClass R_Reader = some m.cls := findClass_of_methodNamed B.named
  have hlocks := B.notSynchronized
  subst hsz
  have hD := hD0.self (sz := s.heap.size)
  generalize hAe : (va_A (TW cI u o i a g) s.heap.size) = A at hD hE ⊢
  have hA : ∀ q : Nat, s.heap.size ≤ q → A q := fun q h => by rw [← hAe]; exact Or.inr h
  have hS : va_S A s.heap s.heap [] := va_S.rf
  obtain ⟨mc, ms, emc, ems⟩ : ∃ mc ms : Nat, k2.1 = mc ∧ k2.2 = ms := ⟨_, _, rfl, rfl⟩
  have hkc : 0 + k2.1 = mc := by rw [Nat.zero_add]; exact emc
  have hks : 0 + k2.2 = ms := by rw [Nat.zero_add]; exact ems
  rw [emc, ems]
  clear emc ems
  have hl := lv_entry ([.ref ((u 7)), .int v1]) (n := 2) (Nat.le_of_ble_eq_true rfl)
  rw [lg_entry_eq]
  generalize (lg_sl ([.ref ((u 7)), .int v1]) ++ List.replicate (2 - (lg_sl ([.ref ((u 7)), .int v1])).length) Slot.unset).toArray = ls at hl ⊢
  have hl : lv_has ls 2 [(0, .ref ((u 7))), (1, .int v1)] := hl
  rw [m_Reader_openList] at hm
  refine lv_aload_n hx hb d_Reader_openList_0 rfl (lv_at hl 0 rfl) ?_
  refine va_get (D := (dC, dI)) (ci := 7) (v := .int (i 29)) (C := R_Reader) (T := F_Reader) (N := 19) hx hb htt iw_Reader hown hK hP 7 xo_7 rfl 10 (Nat.le_of_ble_eq_true rfl) (htt _ lk_Reader_78) (fun _ h9 => h9) xg_7_10 d_Reader_openList_1 ?_
  refine lv_bipush (v := 20) hx hb d_Reader_openList_4 (by decide) ?_
  refine lv_icmp_lt (tgt := 18) hx hb d_Reader_openList_6 (by decide) (fun c_1 => ?_) (fun c_1 => ?_)
  · replace hm := if_t c_1 hm
    refine lv_aload_n hx hb d_Reader_openList_18 rfl (lv_at hl 0 rfl) ?_
    refine va_get (D := (dC, dI)) (ci := 7) (v := .int (i 30)) (C := R_Reader) (T := F_Reader) (N := 19) hx hb htt iw_Reader hown hK hP 7 xo_7 rfl 11 (Nat.le_of_ble_eq_true rfl) (htt _ lk_Reader_81) (fun _ h9 => h9) xg_7_11 d_Reader_openList_19 ?_
    refine lv_sipush (v := 600) hx hb d_Reader_openList_22 (by decide) ?_
    refine lv_icmp_le (tgt := 38) hx hb d_Reader_openList_25 (by decide) (fun c_2 => ?_) (fun c_2 => ?_)
    · replace hm := if_t c_2 hm
      refine lv_aload_n hx hb d_Reader_openList_38 rfl (lv_at hl 0 rfl) ?_
      refine va_get (D := (dC, dI)) (ci := 7) (v := .int (i 32)) (C := R_Reader) (T := F_Reader) (N := 19) hx hb htt iw_Reader hown hK hP 7 xo_7 rfl 13 (Nat.le_of_ble_eq_true rfl) (htt _ lk_Reader_72) (fun _ h9 => h9) xg_7_13 d_Reader_openList_39 ?_
      refine lv_if_eq (tgt := 53) hx hb d_Reader_openList_42 (by decide) (fun c_3 => ?_) (fun c_3 => ?_)
      · replace hm := if_t c_3 hm
        exact lb_Reader_openList_53 l dC dI cI adK adV adA u n hx hb hml hown hts hK hE hA hr hlocks _ _ _ _ _ hm o 0 0 hkc hks _ _ _ hP hD hS (lv_sub hl [0, 1] rfl)
      · replace hm := if_f c_3 hm
        refine lv_aload_n hx hb d_Reader_openList_45 rfl (lv_at hl 0 rfl) ?_
        refine va_get (D := (dC, dI)) (ci := 7) (v := .int (i 32)) (C := R_Reader) (T := F_Reader) (N := 19) hx hb htt iw_Reader hown hK hP 7 xo_7 rfl 13 (Nat.le_of_ble_eq_true rfl) (htt _ lk_Reader_72) (fun _ h9 => h9) xg_7_13 d_Reader_openList_46 ?_
        refine lv_iconst (v := 1) hx hb d_Reader_openList_49 (by decide) ?_
        refine lv_icmp_ne (tgt := 75) hx hb d_Reader_openList_50 (by decide) (fun c_4 => ?_) (fun c_4 => ?_)
        · replace hm := if_f c_4 hm
          refine lv_aload_n hx hb d_Reader_openList_75 rfl (lv_at hl 0 rfl) ?_
          obtain ⟨i_6, a_7, g_8, k_9, r_10, k_11, h_5, hm, e7, e8⟩ := obG_some hm
          have hFc := x_free hD hS hA
          refine xg_callv (va_runV (As := []) (rest := []) ⟨hx, hb, hml, hown, hts⟩ (x_Reader_closeInputs l dC dI cI adK adV adA u o g s.heap.size n h_5) (cwV 0 hts (tw_GV tw_cons cw_Reader_closeInputs lk_Reader_120 in_Reader_closeInputs sel_Reader_closeInputs ini_Reader) rfl rfl rfl ⟨rfl, hd_Reader_closeInputs⟩ ⟨Nat.le_of_ble_eq_true rfl, Nat.le_of_ble_eq_true rfl⟩) (xpV hK hP hD hS hE hFc xo_7 rfl) rfl rfl hl.1 rfl (lv_room (Nat.le_of_ble_eq_true rfl)) d_Reader_openList_76 ⟨show 0 + k_9.1 ≤ mc by omega, show 0 + k_9.2 ≤ ms by omega⟩) hS (fun q _ h => hFc q h) hFc (fun kc_13 ks_14 o_12 t9 H locs ekc eks ht hvm e9 hB hz1 hk1 hS => ?_)
          replace hkc : kc_13 + k_11.1 = mc := by omega
          replace hks : ks_14 + k_11.2 = ms := by omega
          clear e7 e8
          clear ekc eks
          obtain ⟨hP, hD⟩ := x_aftg hB ht hFc
          clear hFc hk1 hz1 hvm hB ht
          refine lv_aload_n hx hb d_Reader_openList_79 rfl (lv_at hl 0 rfl) ?_
          refine va_get (D := (dC, dI)) (ci := 7) (v := .ref ((u 43))) (C := R_Reader) (T := F_Reader) (N := 19) hx hb htt iw_Reader hown hK hP 7 xo_7 rfl 9 (Nat.le_of_ble_eq_true rfl) (htt _ lk_Reader_18) (fun _ h9 => h9) xg_7_9 d_Reader_openList_80 ?_
          refine lv_aload_n hx hb d_Reader_openList_83 rfl (lv_at hl 0 rfl) ?_
          refine va_get (D := (dC, dI)) (ci := 7) (v := .int (i_6 29)) (C := R_Reader) (T := F_Reader) (N := 19) hx hb htt iw_Reader hown hK hP 7 xo_7 rfl 10 (Nat.le_of_ble_eq_true rfl) (htt _ lk_Reader_78) (fun _ h9 => h9) xg_7_10 d_Reader_openList_84 ?_
          refine lv_aload_n hx hb d_Reader_openList_87 rfl (lv_at hl 0 rfl) ?_
          refine va_get (D := (dC, dI)) (ci := 7) (v := .int (i_6 28)) (C := R_Reader) (T := F_Reader) (N := 19) hx hb htt iw_Reader hown hK hP 7 xo_7 rfl 8 (Nat.le_of_ble_eq_true rfl) (htt _ lk_Reader_75) (fun _ h9 => h9) xg_7_8 d_Reader_openList_88 ?_
          obtain ⟨h_15, hm⟩ := ck_some hm
          refine va_iast hx hb hK hP hD hS 45 0 twA_33 rfl h_15 d_Reader_openList_91 (fun H locs hP hD hS => ?_)
          obtain ⟨a_16, ea_16⟩ : ∃ y9 : Nat → Nat → Int32, y9 = sv a_7 33 (i_6 29).toNatClampNeg (i_6 28) := ⟨_, rfl⟩
          replace hm := ob1_at ea_16 hm
          obtain ⟨hP, hD⟩ := xv_33 ea_16 hP hD
          refine lv_aload_n hx hb d_Reader_openList_92 rfl (lv_at hl 0 rfl) ?_
          refine lv_dup hx hb d_Reader_openList_93 rfl ?_
          refine va_get (D := (dC, dI)) (ci := 7) (v := .int (i_6 29)) (C := R_Reader) (T := F_Reader) (N := 19) hx hb htt iw_Reader hown hK hP 7 xo_7 rfl 10 (Nat.le_of_ble_eq_true rfl) (htt _ lk_Reader_78) (fun _ h9 => h9) xg_7_10 d_Reader_openList_94 ?_
          refine lv_iconst (v := 1) hx hb d_Reader_openList_97 (by decide) ?_
          refine lv_iadd hx hb d_Reader_openList_98 ?_
          refine lv_topi (fun x_17 ex_17 => ?_)
          replace hm := ob1_at ex_17 hm
          refine va_put (D := (dC, dI)) (ci := 7) (v := .int x_17) (ty := .int) (C := R_Reader) (T := F_Reader) (N := 19) hx hb htt iw_Reader t_Reader t_Reader_ok n_Reader hown hK hP hD hS 7 xo_7 rfl 10 (Nat.le_of_ble_eq_true rfl) (htt _ lk_Reader_78) (fun _ h9 => h9) rfl (by decide +kernel) rfl rfl xl_7_10 d_Reader_openList_99 (fun H locs hP hD hS => ?_)
          obtain ⟨i_18, ei_18⟩ : ∃ y9 : Nat → Int32, y9 = upd i_6 29 x_17 := ⟨_, rfl⟩
          replace hm := ob1_at ei_18 hm
          obtain ⟨hP, hD⟩ := xw_29 ei_18 hP hD
          obtain ⟨e1, e2, e4, e5, e6, e3⟩ := re5 hm
          obtain ⟨hP, hD⟩ := x_eqg e1 e2 e4 hP hD
          refine W.widen (k := mc) (n := ms) (show kc_13 ≤ mc by omega) (show ks_14 ≤ ms by omega) ?_
          exact W.vret hx hb hr (fun t9 ht hW => ⟨⟨o_12, rfl, trivial, by rw [ht]; exact hP, hD⟩, hS.F ht⟩) hS.2.2 d_Reader_openList_102
        · replace hm := if_t c_4 hm
          exact lb_Reader_openList_53 l dC dI cI adK adV adA u n hx hb hml hown hts hK hE hA hr hlocks _ _ _ _ _ hm o 0 0 hkc hks _ _ _ hP hD hS (lv_sub hl [0, 1] rfl)
    · replace hm := if_f c_2 hm
      refine lv_aload_n hx hb d_Reader_openList_28 rfl (lv_at hl 0 rfl) ?_
      refine lv_bipush (v := 6) hx hb d_Reader_openList_29 (by decide) ?_
      refine lv_iload_n hx hb d_Reader_openList_31 rfl (lv_at hl 1 rfl) ?_
      obtain ⟨i_20, a_21, r_22, h_19, hm⟩ := ob_some hm
      have hFc := x_free hD hS hA
      refine xg_callv (va_runV (As := [.int 6, .int v1]) (rest := []) ⟨hx, hb, hml, hown, hts⟩ (x_Reader_blame l dC dI cI adK adV adA u o g s.heap.size n h_19) (cwV 2 hts (tw_GV tw_cons cw_Reader_blame lk_Reader_54 in_Reader_blame sel_Reader_blame ini_Reader) rfl rfl rfl ⟨rfl, hd_Reader_blame⟩ ⟨Nat.le_of_ble_eq_true rfl, Nat.le_of_ble_eq_true rfl⟩) (xpV hK hP hD hS hE hFc xo_7 rfl) rfl rfl hl.1 rfl (lv_room (Nat.le_of_ble_eq_true rfl)) d_Reader_openList_32 ⟨show 0 + 0 ≤ mc by omega, show 0 + 0 ≤ ms by omega⟩) hS (fun q _ h => hFc q h) hFc (fun kc_23 ks_24 u9 t9 H locs ekc eks ht hvm e9 hB hz1 hk1 hS => ?_)
      replace hkc : kc_23 + k2.1 = mc := by omega
      replace hks : ks_24 + k2.2 = ms := by omega
      clear ekc eks
      obtain ⟨hP, hD⟩ := x_aft hB ht hFc
      clear hFc hk1 hz1 hvm hB ht
      refine lv_goto (tgt := 102) hx hb d_Reader_openList_35 (by decide) ?_
      obtain ⟨e1, e2, e4, e5, e6, e3⟩ := re5 hm
      obtain ⟨hP, hD⟩ := x_eqg e1 e2 e4 hP hD
      refine W.widen (k := mc) (n := ms) (show kc_23 ≤ mc by omega) (show ks_24 ≤ ms by omega) ?_
      exact W.vret hx hb hr (fun t9 ht hW => ⟨⟨o, rfl, trivial, by rw [ht]; exact hP, hD⟩, hS.F ht⟩) hS.2.2 d_Reader_openList_102
  · replace hm := if_f c_1 hm
    refine lv_aload_n hx hb d_Reader_openList_9 rfl (lv_at hl 0 rfl) ?_
    refine lv_iconst (v := 5) hx hb d_Reader_openList_10 (by decide) ?_
    refine lv_iload_n hx hb d_Reader_openList_11 rfl (lv_at hl 1 rfl) ?_
    obtain ⟨i_26, a_27, r_28, h_25, hm⟩ := ob_some hm
    have hFc := x_free hD hS hA
    refine xg_callv (va_runV (As := [.int 5, .int v1]) (rest := []) ⟨hx, hb, hml, hown, hts⟩ (x_Reader_blame l dC dI cI adK adV adA u o g s.heap.size n h_25) (cwV 2 hts (tw_GV tw_cons cw_Reader_blame lk_Reader_54 in_Reader_blame sel_Reader_blame ini_Reader) rfl rfl rfl ⟨rfl, hd_Reader_blame⟩ ⟨Nat.le_of_ble_eq_true rfl, Nat.le_of_ble_eq_true rfl⟩) (xpV hK hP hD hS hE hFc xo_7 rfl) rfl rfl hl.1 rfl (lv_room (Nat.le_of_ble_eq_true rfl)) d_Reader_openList_12 ⟨show 0 + 0 ≤ mc by omega, show 0 + 0 ≤ ms by omega⟩) hS (fun q _ h => hFc q h) hFc (fun kc_29 ks_30 u9 t9 H locs ekc eks ht hvm e9 hB hz1 hk1 hS => ?_)
    replace hkc : kc_29 + k2.1 = mc := by omega
    replace hks : ks_30 + k2.2 = ms := by omega
    clear ekc eks
    obtain ⟨hP, hD⟩ := x_aft hB ht hFc
    clear hFc hk1 hz1 hvm hB ht
    refine lv_goto (tgt := 102) hx hb d_Reader_openList_15 (by decide) ?_
    obtain ⟨e1, e2, e4, e5, e6, e3⟩ := re5 hm
    obtain ⟨hP, hD⟩ := x_eqg e1 e2 e4 hP hD
    refine W.widen (k := mc) (n := ms) (show kc_29 ≤ mc by omega) (show ks_30 ≤ ms by omega) ?_
    exact W.vret hx hb hr (fun t9 ht hW => ⟨⟨o, rfl, trivial, by rw [ht]; exact hP, hD⟩, hS.F ht⟩) hS.2.2 d_Reader_openList_102

def m_Reader_takePlain_b76 (n : Nat) (i : Nat → Int32) (a : Nat → Nat → Int32) (g : Nat → Nat) (v1 : Int32) (v2 : Int32) (v3 : Int32) : Option ((Nat → Int32) × (Nat → Nat → Int32) × (Nat → Nat) × (Nat × Nat) × Int32) := obG (m_Reader_closeInputs n g i a) (fun i_2 a_3 g_4 r_6 => if ((i_2 31)) = ((0 : Int32)) then ob (m_Reader_addMember n g_4 i_2 a_3 v1) (fun i_13 a_14 r_15 => some (i_13, a_14, g_4, (0, 0), (0 : Int32))) else if ((i_2 29)) = ((0 : Int32)) then if v3 = ((85 : Int32)) then obG (m_Reader_closeBody n g_4 i_2 a_3 v2) (fun i_33 a_34 g_35 r_37 => some (i_33, a_34, g_35, (0, 0), (0 : Int32))) else ob (m_Reader_addMember n g_4 i_2 a_3 v1) (fun i_27 a_28 r_29 => some (i_27, a_28, g_4, (0, 0), (0 : Int32))) else ob (m_Reader_addMember n g_4 i_2 a_3 v1) (fun i_20 a_21 r_22 => some (i_20, a_21, g_4, (0, 0), (0 : Int32))))
set_option maxHeartbeats 4000000 in
set_option maxRecDepth 100000 in
theorem lb_Reader_takePlain_76 (l : Launch) (dC : Nat → ClassId) (dI : Nat → Nat → Nat) (cI : ClassId) (adK adV adA u : Nat → Nat) (n : Nat) {p : Program} {e : Env} {s : State} {m : MethodId} {args : Array Value} {below : List Frame} {meth : Method} {c : Code} {A : Nat → Prop} (hx : p.tables.exec = Jvm.exec) (hb : c.code = b_Reader_takePlain) (hml : c.maxLocals = 4) (hown : s.vm.findClass R_Reader = some m.cls) (hts : ∀ w ∈ w_Reader_takePlain, w.before args s = true) (hK : va_K (dC, dI) classes [(cI, .int)] s) (hE : tw_E adK adV adA A s s.heap) (hA : ∀ q : Nat, s.heap.size ≤ q → A q) (hr : meth.sig.returnType = none) (hlocks : meth.locks = false) {mc ms : Nat} {i2 : Nat → Int32} {a2 : Nat → Nat → Int32} {g2 : Nat → Nat} {r2 : Int32} (i : Nat → Int32) (a : Nat → Nat → Int32) (g : Nat → Nat) (v1 : Int32) (v2 : Int32) (v3 : Int32) (k2 : Nat × Nat) (hm : m_Reader_takePlain_b76 n i a g v1 v2 v3 = some (i2, a2, g2, k2, r2)) : ∀ (o : Nat → Nat) (kc ks : Nat), kc + k2.1 = mc → ks + k2.2 = ms → ∀ (H : Heap) (locs : List Loc) (ls : Array Slot), va_P (dC, dI) classes (TW cI u o i a g) H → va_D A (TW cI u o i a g) → va_S A s.heap H locs → lv_has ls 4 [(0, .ref ((u 7))), (1, .int v1), (2, .int v2), (3, .int v3)] → W p l e ({ frames := 6, cells := mc, slots := ms, locals := 154 } : Room) s m args below meth c H locs kc ks (MQ below (va_Qv xVg (xBg dC dI cI u g2 i2 a2 A) A) args s mc ms A) (F0 m 76 ls []) := by
  have htt : ∀ w ∈ tw_T, w.before _ s = true := fun w h => hts w (List.mem_cons_of_mem _ h)
  intro o kc ks hkc hks H locs ls hP hD hS hl
  rw [m_Reader_takePlain_b76] at hm
  refine lv_aload_n hx hb d_Reader_takePlain_76 rfl (lv_at hl 0 rfl) ?_
  obtain ⟨i_2, a_3, g_4, k_5, r_6, k_7, h_1, hm, e7, e8⟩ := obG_some hm
  have hFc := x_free hD hS hA
  refine xg_callv (va_runV (As := []) (rest := []) ⟨hx, hb, hml, hown, hts⟩ (x_Reader_closeInputs l dC dI cI adK adV adA u o g H.size n h_1) (cwV 0 hts (tw_GV tw_cons cw_Reader_closeInputs lk_Reader_120 in_Reader_closeInputs sel_Reader_closeInputs ini_Reader) rfl rfl rfl ⟨rfl, hd_Reader_closeInputs⟩ ⟨Nat.le_of_ble_eq_true rfl, Nat.le_of_ble_eq_true rfl⟩) (xpV hK hP hD hS hE hFc xo_7 rfl) rfl rfl hl.1 rfl (lv_room (Nat.le_of_ble_eq_true rfl)) d_Reader_takePlain_77 ⟨show kc + k_5.1 ≤ mc by omega, show ks + k_5.2 ≤ ms by omega⟩) hS (fun q _ h => hFc q h) hFc (fun kc_9 ks_10 o_8 t9 H locs ekc eks ht hvm e9 hB hz1 hk1 hS => ?_)
  replace hkc : kc_9 + k_7.1 = mc := by omega
  replace hks : ks_10 + k_7.2 = ms := by omega
  clear e7 e8
  clear ekc eks
  obtain ⟨hP, hD⟩ := x_aftg hB ht hFc
  clear hFc hk1 hz1 hvm hB ht
  refine lv_aload_n hx hb d_Reader_takePlain_80 rfl (lv_at hl 0 rfl) ?_
  refine va_get (D := (dC, dI)) (ci := 7) (v := .int (i_2 31)) (C := R_Reader) (T := F_Reader) (N := 19) hx hb htt iw_Reader hown hK hP 7 xo_7 rfl 12 (Nat.le_of_ble_eq_true rfl) (htt _ lk_Reader_68) (fun _ h9 => h9) xg_7_12 d_Reader_takePlain_81 ?_
  refine lv_if_eq (tgt := 108) hx hb d_Reader_takePlain_84 (by decide) (fun c_11 => ?_) (fun c_11 => ?_)
  · replace hm := if_t c_11 hm
    refine lv_aload_n hx hb d_Reader_takePlain_108 rfl (lv_at hl 0 rfl) ?_
    refine lv_iload_n hx hb d_Reader_takePlain_109 rfl (lv_at hl 1 rfl) ?_
    obtain ⟨i_13, a_14, r_15, h_12, hm⟩ := ob_some hm
    have hFc := x_free hD hS hA
    refine xg_callv (va_runV (As := [.int v1]) (rest := []) ⟨hx, hb, hml, hown, hts⟩ (x_Reader_addMember l dC dI cI adK adV adA u o_8 g_4 H.size n h_12) (cwV 1 hts (tw_GV tw_cons cw_Reader_addMember lk_Reader_128 in_Reader_addMember sel_Reader_addMember ini_Reader) rfl rfl rfl ⟨rfl, hd_Reader_addMember⟩ ⟨Nat.le_of_ble_eq_true rfl, Nat.le_of_ble_eq_true rfl⟩) (xpV hK hP hD hS hE hFc xo_7 rfl) rfl rfl hl.1 rfl (lv_room (Nat.le_of_ble_eq_true rfl)) d_Reader_takePlain_110 ⟨show kc_9 + 0 ≤ mc by omega, show ks_10 + 0 ≤ ms by omega⟩) hS (fun q _ h => hFc q h) hFc (fun kc_16 ks_17 u9 t9 H locs ekc eks ht hvm e9 hB hz1 hk1 hS => ?_)
    replace hkc : kc_16 + k_7.1 = mc := by omega
    replace hks : ks_17 + k_7.2 = ms := by omega
    clear ekc eks
    obtain ⟨hP, hD⟩ := x_aft hB ht hFc
    clear hFc hk1 hz1 hvm hB ht
    obtain ⟨e1, e2, e4, e5, e6, e3⟩ := re5 hm
    obtain ⟨hP, hD⟩ := x_eqg e1 e2 e4 hP hD
    refine W.widen (k := mc) (n := ms) (show kc_16 ≤ mc by omega) (show ks_17 ≤ ms by omega) ?_
    exact W.vret hx hb hr (fun t9 ht hW => ⟨⟨o_8, rfl, trivial, by rw [ht]; exact hP, hD⟩, hS.F ht⟩) hS.2.2 d_Reader_takePlain_113
  · replace hm := if_f c_11 hm
    refine lv_aload_n hx hb d_Reader_takePlain_87 rfl (lv_at hl 0 rfl) ?_
    refine va_get (D := (dC, dI)) (ci := 7) (v := .int (i_2 29)) (C := R_Reader) (T := F_Reader) (N := 19) hx hb htt iw_Reader hown hK hP 7 xo_7 rfl 10 (Nat.le_of_ble_eq_true rfl) (htt _ lk_Reader_78) (fun _ h9 => h9) xg_7_10 d_Reader_takePlain_88 ?_
    refine lv_if_ne (tgt := 108) hx hb d_Reader_takePlain_91 (by decide) (fun c_18 => ?_) (fun c_18 => ?_)
    · replace hm := if_f c_18 hm
      refine lv_aload_n hx hb d_Reader_takePlain_108 rfl (lv_at hl 0 rfl) ?_
      refine lv_iload_n hx hb d_Reader_takePlain_109 rfl (lv_at hl 1 rfl) ?_
      obtain ⟨i_20, a_21, r_22, h_19, hm⟩ := ob_some hm
      have hFc := x_free hD hS hA
      refine xg_callv (va_runV (As := [.int v1]) (rest := []) ⟨hx, hb, hml, hown, hts⟩ (x_Reader_addMember l dC dI cI adK adV adA u o_8 g_4 H.size n h_19) (cwV 1 hts (tw_GV tw_cons cw_Reader_addMember lk_Reader_128 in_Reader_addMember sel_Reader_addMember ini_Reader) rfl rfl rfl ⟨rfl, hd_Reader_addMember⟩ ⟨Nat.le_of_ble_eq_true rfl, Nat.le_of_ble_eq_true rfl⟩) (xpV hK hP hD hS hE hFc xo_7 rfl) rfl rfl hl.1 rfl (lv_room (Nat.le_of_ble_eq_true rfl)) d_Reader_takePlain_110 ⟨show kc_9 + 0 ≤ mc by omega, show ks_10 + 0 ≤ ms by omega⟩) hS (fun q _ h => hFc q h) hFc (fun kc_23 ks_24 u9 t9 H locs ekc eks ht hvm e9 hB hz1 hk1 hS => ?_)
      replace hkc : kc_23 + k_7.1 = mc := by omega
      replace hks : ks_24 + k_7.2 = ms := by omega
      clear ekc eks
      obtain ⟨hP, hD⟩ := x_aft hB ht hFc
      clear hFc hk1 hz1 hvm hB ht
      obtain ⟨e1, e2, e4, e5, e6, e3⟩ := re5 hm
      obtain ⟨hP, hD⟩ := x_eqg e1 e2 e4 hP hD
      refine W.widen (k := mc) (n := ms) (show kc_23 ≤ mc by omega) (show ks_24 ≤ ms by omega) ?_
      exact W.vret hx hb hr (fun t9 ht hW => ⟨⟨o_8, rfl, trivial, by rw [ht]; exact hP, hD⟩, hS.F ht⟩) hS.2.2 d_Reader_takePlain_113
    · replace hm := if_t c_18 hm
      refine lv_iload_n hx hb d_Reader_takePlain_94 rfl (lv_at hl 3 rfl) ?_
      refine lv_bipush (v := 85) hx hb d_Reader_takePlain_95 (by decide) ?_
      refine lv_icmp_ne (tgt := 108) hx hb d_Reader_takePlain_97 (by decide) (fun c_25 => ?_) (fun c_25 => ?_)
      · replace hm := if_f c_25 hm
        refine lv_aload_n hx hb d_Reader_takePlain_108 rfl (lv_at hl 0 rfl) ?_
        refine lv_iload_n hx hb d_Reader_takePlain_109 rfl (lv_at hl 1 rfl) ?_
        obtain ⟨i_27, a_28, r_29, h_26, hm⟩ := ob_some hm
        have hFc := x_free hD hS hA
        refine xg_callv (va_runV (As := [.int v1]) (rest := []) ⟨hx, hb, hml, hown, hts⟩ (x_Reader_addMember l dC dI cI adK adV adA u o_8 g_4 H.size n h_26) (cwV 1 hts (tw_GV tw_cons cw_Reader_addMember lk_Reader_128 in_Reader_addMember sel_Reader_addMember ini_Reader) rfl rfl rfl ⟨rfl, hd_Reader_addMember⟩ ⟨Nat.le_of_ble_eq_true rfl, Nat.le_of_ble_eq_true rfl⟩) (xpV hK hP hD hS hE hFc xo_7 rfl) rfl rfl hl.1 rfl (lv_room (Nat.le_of_ble_eq_true rfl)) d_Reader_takePlain_110 ⟨show kc_9 + 0 ≤ mc by omega, show ks_10 + 0 ≤ ms by omega⟩) hS (fun q _ h => hFc q h) hFc (fun kc_30 ks_31 u9 t9 H locs ekc eks ht hvm e9 hB hz1 hk1 hS => ?_)
        replace hkc : kc_30 + k_7.1 = mc := by omega
        replace hks : ks_31 + k_7.2 = ms := by omega
        clear ekc eks
        obtain ⟨hP, hD⟩ := x_aft hB ht hFc
        clear hFc hk1 hz1 hvm hB ht
        obtain ⟨e1, e2, e4, e5, e6, e3⟩ := re5 hm
        obtain ⟨hP, hD⟩ := x_eqg e1 e2 e4 hP hD
        refine W.widen (k := mc) (n := ms) (show kc_30 ≤ mc by omega) (show ks_31 ≤ ms by omega) ?_
        exact W.vret hx hb hr (fun t9 ht hW => ⟨⟨o_8, rfl, trivial, by rw [ht]; exact hP, hD⟩, hS.F ht⟩) hS.2.2 d_Reader_takePlain_113
      · replace hm := if_t c_25 hm
        refine lv_aload_n hx hb d_Reader_takePlain_100 rfl (lv_at hl 0 rfl) ?_
        refine lv_iload_n hx hb d_Reader_takePlain_101 rfl (lv_at hl 2 rfl) ?_
        obtain ⟨i_33, a_34, g_35, k_36, r_37, k_38, h_32, hm, e7, e8⟩ := obG_some hm
        have hFc := x_free hD hS hA
        refine xg_callv (va_runV (As := [.int v2]) (rest := []) ⟨hx, hb, hml, hown, hts⟩ (x_Reader_closeBody l dC dI cI adK adV adA u o_8 g_4 H.size n h_32) (cwV 1 hts (tw_GV tw_cons cw_Reader_closeBody lk_Reader_153 in_Reader_closeBody sel_Reader_closeBody ini_Reader) rfl rfl rfl ⟨rfl, hd_Reader_closeBody⟩ ⟨Nat.le_of_ble_eq_true rfl, Nat.le_of_ble_eq_true rfl⟩) (xpV hK hP hD hS hE hFc xo_7 rfl) rfl rfl hl.1 rfl (lv_room (Nat.le_of_ble_eq_true rfl)) d_Reader_takePlain_102 ⟨show kc_9 + k_36.1 ≤ mc by omega, show ks_10 + k_36.2 ≤ ms by omega⟩) hS (fun q _ h => hFc q h) hFc (fun kc_40 ks_41 o_39 t9 H locs ekc eks ht hvm e9 hB hz1 hk1 hS => ?_)
        replace hkc : kc_40 + k_38.1 = mc := by omega
        replace hks : ks_41 + k_38.2 = ms := by omega
        clear e7 e8
        clear ekc eks
        obtain ⟨hP, hD⟩ := x_aftg hB ht hFc
        clear hFc hk1 hz1 hvm hB ht
        refine lv_goto (tgt := 113) hx hb d_Reader_takePlain_105 (by decide) ?_
        obtain ⟨e1, e2, e4, e5, e6, e3⟩ := re5 hm
        obtain ⟨hP, hD⟩ := x_eqg e1 e2 e4 hP hD
        refine W.widen (k := mc) (n := ms) (show kc_40 ≤ mc by omega) (show ks_41 ≤ ms by omega) ?_
        exact W.vret hx hb hr (fun t9 ht hW => ⟨⟨o_39, rfl, trivial, by rw [ht]; exact hP, hD⟩, hS.F ht⟩) hS.2.2 d_Reader_takePlain_113
def m_Reader_takePlain_b19 (n : Nat) (i : Nat → Int32) (a : Nat → Nat → Int32) (g : Nat → Nat) (v1 : Int32) (v2 : Int32) (s0 : Int32) : Option ((Nat → Int32) × (Nat → Nat → Int32) × (Nat → Nat) × (Nat × Nat) × Int32) := if ((i 32)) = ((0 : Int32)) then ob (m_Reader_takeTo n g i a s0 v2) (fun i_18 a_19 r_20 => some (i_18, a_19, g, (0, 0), (0 : Int32))) else if ((i 32)) = ((1 : Int32)) then ob (m_Reader_takeName n g i a v1 v2) (fun i_12 a_13 r_14 => some (i_12, a_13, g, (0, 0), (0 : Int32))) else if ((i 32)) = ((2 : Int32)) then if s0 = ((87 : Int32)) then ob (m_Reader_takeInput n g i a v1 v2) (fun i_6 a_7 r_8 => some (i_6, a_7, g, (0, 0), (0 : Int32))) else m_Reader_takePlain_b76 n i a g v1 v2 s0 else m_Reader_takePlain_b76 n i a g v1 v2 s0
set_option maxHeartbeats 4000000 in
set_option maxRecDepth 100000 in
theorem lb_Reader_takePlain_19 (l : Launch) (dC : Nat → ClassId) (dI : Nat → Nat → Nat) (cI : ClassId) (adK adV adA u : Nat → Nat) (n : Nat) {p : Program} {e : Env} {s : State} {m : MethodId} {args : Array Value} {below : List Frame} {meth : Method} {c : Code} {A : Nat → Prop} (hx : p.tables.exec = Jvm.exec) (hb : c.code = b_Reader_takePlain) (hml : c.maxLocals = 4) (hown : s.vm.findClass R_Reader = some m.cls) (hts : ∀ w ∈ w_Reader_takePlain, w.before args s = true) (hK : va_K (dC, dI) classes [(cI, .int)] s) (hE : tw_E adK adV adA A s s.heap) (hA : ∀ q : Nat, s.heap.size ≤ q → A q) (hr : meth.sig.returnType = none) (hlocks : meth.locks = false) {mc ms : Nat} {i2 : Nat → Int32} {a2 : Nat → Nat → Int32} {g2 : Nat → Nat} {r2 : Int32} (i : Nat → Int32) (a : Nat → Nat → Int32) (g : Nat → Nat) (v1 : Int32) (v2 : Int32) (s0 : Int32) (k2 : Nat × Nat) (hm : m_Reader_takePlain_b19 n i a g v1 v2 s0 = some (i2, a2, g2, k2, r2)) : ∀ (o : Nat → Nat) (kc ks : Nat), kc + k2.1 = mc → ks + k2.2 = ms → ∀ (H : Heap) (locs : List Loc) (ls : Array Slot), va_P (dC, dI) classes (TW cI u o i a g) H → va_D A (TW cI u o i a g) → va_S A s.heap H locs → lv_has ls 4 [(0, .ref ((u 7))), (1, .int v1), (2, .int v2)] → W p l e ({ frames := 6, cells := mc, slots := ms, locals := 154 } : Room) s m args below meth c H locs kc ks (MQ below (va_Qv xVg (xBg dC dI cI u g2 i2 a2 A) A) args s mc ms A) (F0 m 19 ls [.int s0]) := by
  have htt : ∀ w ∈ tw_T, w.before _ s = true := fun w h => hts w (List.mem_cons_of_mem _ h)
  intro o kc ks hkc hks H locs ls hP hD hS hl
  rw [m_Reader_takePlain_b19] at hm
  refine lv_istore_n (lv' := [(3, .int s0), (0, .ref ((u 7))), (1, .int v1), (2, .int v2)]) hx hb d_Reader_takePlain_19 rfl hl (by decide) rfl (fun ls hl => ?_)
  refine lv_aload_n hx hb d_Reader_takePlain_20 rfl (lv_at hl 1 rfl) ?_
  refine va_get (D := (dC, dI)) (ci := 7) (v := .int (i 32)) (C := R_Reader) (T := F_Reader) (N := 19) hx hb htt iw_Reader hown hK hP 7 xo_7 rfl 13 (Nat.le_of_ble_eq_true rfl) (htt _ lk_Reader_72) (fun _ h9 => h9) xg_7_13 d_Reader_takePlain_21 ?_
  refine lv_if_ne (tgt := 36) hx hb d_Reader_takePlain_24 (by decide) (fun c_1 => ?_) (fun c_1 => ?_)
  · replace hm := if_f c_1 hm
    refine lv_aload_n hx hb d_Reader_takePlain_36 rfl (lv_at hl 1 rfl) ?_
    refine va_get (D := (dC, dI)) (ci := 7) (v := .int (i 32)) (C := R_Reader) (T := F_Reader) (N := 19) hx hb htt iw_Reader hown hK hP 7 xo_7 rfl 13 (Nat.le_of_ble_eq_true rfl) (htt _ lk_Reader_72) (fun _ h9 => h9) xg_7_13 d_Reader_takePlain_37 ?_
    refine lv_iconst (v := 1) hx hb d_Reader_takePlain_40 (by decide) ?_
    refine lv_icmp_ne (tgt := 53) hx hb d_Reader_takePlain_41 (by decide) (fun c_2 => ?_) (fun c_2 => ?_)
    · replace hm := if_f c_2 hm
      refine lv_aload_n hx hb d_Reader_takePlain_53 rfl (lv_at hl 1 rfl) ?_
      refine va_get (D := (dC, dI)) (ci := 7) (v := .int (i 32)) (C := R_Reader) (T := F_Reader) (N := 19) hx hb htt iw_Reader hown hK hP 7 xo_7 rfl 13 (Nat.le_of_ble_eq_true rfl) (htt _ lk_Reader_72) (fun _ h9 => h9) xg_7_13 d_Reader_takePlain_54 ?_
      refine lv_iconst (v := 2) hx hb d_Reader_takePlain_57 (by decide) ?_
      refine lv_icmp_ne (tgt := 76) hx hb d_Reader_takePlain_58 (by decide) (fun c_3 => ?_) (fun c_3 => ?_)
      · replace hm := if_f c_3 hm
        exact lb_Reader_takePlain_76 l dC dI cI adK adV adA u n hx hb hml hown hts hK hE hA hr hlocks _ _ _ _ _ _ _ hm o kc ks hkc hks _ _ _ hP hD hS (lv_sub hl [1, 2, 3, 0] rfl)
      · replace hm := if_t c_3 hm
        refine lv_iload_n hx hb d_Reader_takePlain_61 rfl (lv_at hl 0 rfl) ?_
        refine lv_bipush (v := 87) hx hb d_Reader_takePlain_62 (by decide) ?_
        refine lv_icmp_ne (tgt := 76) hx hb d_Reader_takePlain_64 (by decide) (fun c_4 => ?_) (fun c_4 => ?_)
        · replace hm := if_f c_4 hm
          exact lb_Reader_takePlain_76 l dC dI cI adK adV adA u n hx hb hml hown hts hK hE hA hr hlocks _ _ _ _ _ _ _ hm o kc ks hkc hks _ _ _ hP hD hS (lv_sub hl [1, 2, 3, 0] rfl)
        · replace hm := if_t c_4 hm
          refine lv_aload_n hx hb d_Reader_takePlain_67 rfl (lv_at hl 1 rfl) ?_
          refine lv_iload_n hx hb d_Reader_takePlain_68 rfl (lv_at hl 2 rfl) ?_
          refine lv_iload_n hx hb d_Reader_takePlain_69 rfl (lv_at hl 3 rfl) ?_
          obtain ⟨i_6, a_7, r_8, h_5, hm⟩ := ob_some hm
          have hFc := x_free hD hS hA
          refine xg_callv (va_runV (As := [.int v1, .int v2]) (rest := []) ⟨hx, hb, hml, hown, hts⟩ (x_Reader_takeInput l dC dI cI adK adV adA u o g H.size n h_5) (cwV 2 hts (tw_GV tw_cons cw_Reader_takeInput lk_Reader_150 in_Reader_takeInput sel_Reader_takeInput ini_Reader) rfl rfl rfl ⟨rfl, hd_Reader_takeInput⟩ ⟨Nat.le_of_ble_eq_true rfl, Nat.le_of_ble_eq_true rfl⟩) (xpV hK hP hD hS hE hFc xo_7 rfl) rfl rfl hl.1 rfl (lv_room (Nat.le_of_ble_eq_true rfl)) d_Reader_takePlain_70 ⟨show kc + 0 ≤ mc by omega, show ks + 0 ≤ ms by omega⟩) hS (fun q _ h => hFc q h) hFc (fun kc_9 ks_10 u9 t9 H locs ekc eks ht hvm e9 hB hz1 hk1 hS => ?_)
          replace hkc : kc_9 + k2.1 = mc := by omega
          replace hks : ks_10 + k2.2 = ms := by omega
          clear ekc eks
          obtain ⟨hP, hD⟩ := x_aft hB ht hFc
          clear hFc hk1 hz1 hvm hB ht
          refine lv_goto (tgt := 113) hx hb d_Reader_takePlain_73 (by decide) ?_
          obtain ⟨e1, e2, e4, e5, e6, e3⟩ := re5 hm
          obtain ⟨hP, hD⟩ := x_eqg e1 e2 e4 hP hD
          refine W.widen (k := mc) (n := ms) (show kc_9 ≤ mc by omega) (show ks_10 ≤ ms by omega) ?_
          exact W.vret hx hb hr (fun t9 ht hW => ⟨⟨o, rfl, trivial, by rw [ht]; exact hP, hD⟩, hS.F ht⟩) hS.2.2 d_Reader_takePlain_113
    · replace hm := if_t c_2 hm
      refine lv_aload_n hx hb d_Reader_takePlain_44 rfl (lv_at hl 1 rfl) ?_
      refine lv_iload_n hx hb d_Reader_takePlain_45 rfl (lv_at hl 2 rfl) ?_
      refine lv_iload_n hx hb d_Reader_takePlain_46 rfl (lv_at hl 3 rfl) ?_
      obtain ⟨i_12, a_13, r_14, h_11, hm⟩ := ob_some hm
      have hFc := x_free hD hS hA
      refine xg_callv (va_runV (As := [.int v1, .int v2]) (rest := []) ⟨hx, hb, hml, hown, hts⟩ (x_Reader_takeName l dC dI cI adK adV adA u o g H.size n h_11) (cwV 2 hts (tw_GV tw_cons cw_Reader_takeName lk_Reader_147 in_Reader_takeName sel_Reader_takeName ini_Reader) rfl rfl rfl ⟨rfl, hd_Reader_takeName⟩ ⟨Nat.le_of_ble_eq_true rfl, Nat.le_of_ble_eq_true rfl⟩) (xpV hK hP hD hS hE hFc xo_7 rfl) rfl rfl hl.1 rfl (lv_room (Nat.le_of_ble_eq_true rfl)) d_Reader_takePlain_47 ⟨show kc + 0 ≤ mc by omega, show ks + 0 ≤ ms by omega⟩) hS (fun q _ h => hFc q h) hFc (fun kc_15 ks_16 u9 t9 H locs ekc eks ht hvm e9 hB hz1 hk1 hS => ?_)
      replace hkc : kc_15 + k2.1 = mc := by omega
      replace hks : ks_16 + k2.2 = ms := by omega
      clear ekc eks
      obtain ⟨hP, hD⟩ := x_aft hB ht hFc
      clear hFc hk1 hz1 hvm hB ht
      refine lv_goto (tgt := 113) hx hb d_Reader_takePlain_50 (by decide) ?_
      obtain ⟨e1, e2, e4, e5, e6, e3⟩ := re5 hm
      obtain ⟨hP, hD⟩ := x_eqg e1 e2 e4 hP hD
      refine W.widen (k := mc) (n := ms) (show kc_15 ≤ mc by omega) (show ks_16 ≤ ms by omega) ?_
      exact W.vret hx hb hr (fun t9 ht hW => ⟨⟨o, rfl, trivial, by rw [ht]; exact hP, hD⟩, hS.F ht⟩) hS.2.2 d_Reader_takePlain_113
  · replace hm := if_t c_1 hm
    refine lv_aload_n hx hb d_Reader_takePlain_27 rfl (lv_at hl 1 rfl) ?_
    refine lv_iload_n hx hb d_Reader_takePlain_28 rfl (lv_at hl 0 rfl) ?_
    refine lv_iload_n hx hb d_Reader_takePlain_29 rfl (lv_at hl 3 rfl) ?_
    obtain ⟨i_18, a_19, r_20, h_17, hm⟩ := ob_some hm
    have hFc := x_free hD hS hA
    refine xg_callv (va_runV (As := [.int s0, .int v2]) (rest := []) ⟨hx, hb, hml, hown, hts⟩ (x_Reader_takeTo l dC dI cI adK adV adA u o g H.size n h_17) (cwV 2 hts (tw_GV tw_cons cw_Reader_takeTo lk_Reader_144 in_Reader_takeTo sel_Reader_takeTo ini_Reader) rfl rfl rfl ⟨rfl, hd_Reader_takeTo⟩ ⟨Nat.le_of_ble_eq_true rfl, Nat.le_of_ble_eq_true rfl⟩) (xpV hK hP hD hS hE hFc xo_7 rfl) rfl rfl hl.1 rfl (lv_room (Nat.le_of_ble_eq_true rfl)) d_Reader_takePlain_30 ⟨show kc + 0 ≤ mc by omega, show ks + 0 ≤ ms by omega⟩) hS (fun q _ h => hFc q h) hFc (fun kc_21 ks_22 u9 t9 H locs ekc eks ht hvm e9 hB hz1 hk1 hS => ?_)
    replace hkc : kc_21 + k2.1 = mc := by omega
    replace hks : ks_22 + k2.2 = ms := by omega
    clear ekc eks
    obtain ⟨hP, hD⟩ := x_aft hB ht hFc
    clear hFc hk1 hz1 hvm hB ht
    refine lv_goto (tgt := 113) hx hb d_Reader_takePlain_33 (by decide) ?_
    obtain ⟨e1, e2, e4, e5, e6, e3⟩ := re5 hm
    obtain ⟨hP, hD⟩ := x_eqg e1 e2 e4 hP hD
    refine W.widen (k := mc) (n := ms) (show kc_21 ≤ mc by omega) (show ks_22 ≤ ms by omega) ?_
    exact W.vret hx hb hr (fun t9 ht hW => ⟨⟨o, rfl, trivial, by rw [ht]; exact hP, hD⟩, hS.F ht⟩) hS.2.2 d_Reader_takePlain_113
def m_Reader_takePlain (n : Nat) (g : Nat → Nat) (i : Nat → Int32) (a : Nat → Nat → Int32) (v1 : Int32) (v2 : Int32) : Option ((Nat → Int32) × (Nat → Nat → Int32) × (Nat → Nat) × (Nat × Nat) × Int32) := ob0 (m_Heap_isWord n v1) (fun r_2 => if r_2 = ((0 : Int32)) then m_Reader_takePlain_b19 n i a g v1 v2 (0 : Int32) else ob0 (m_Heap_meaning n g i a v1) (fun r_7 => m_Reader_takePlain_b19 n i a g v1 v2 r_7))
set_option maxHeartbeats 4000000 in
set_option maxRecDepth 100000 in
theorem x_Reader_takePlain (l : Launch) (dC : Nat → ClassId) (dI : Nat → Nat → Nat) (cI : ClassId) (adK adV adA u o g : Nat → Nat) (sz : Nat) (n : Nat) {i : Nat → Int32} {a : Nat → Nat → Int32} {v1 : Int32} {v2 : Int32} {i2 : Nat → Int32} {a2 : Nat → Nat → Int32} {g2 : Nat → Nat} {k2 : Nat × Nat} {r2 : Int32} (hm : m_Reader_takePlain n g i a v1 v2 = some (i2, a2, g2, k2, r2)) : Met l y_Reader_takePlain w_Reader_takePlain ({ frames := 6, cells := k2.1, slots := k2.2, locals := 154 } : Room) (va_Pc [.ref ((u 7)), .int v1, .int v2] (xE dC dI cI adK adV adA u o g i a sz)) (va_Qv xVg (xBg dC dI cI u g2 i2 a2 (va_A (TW cI u o i a g) sz)) (va_A (TW cI u o i a g) sz)) k2.1 k2.2 ((va_A (TW cI u o i a g) sz)) := by
  refine Met.ofW (cc := b_Reader_takePlain) (maxL := 4) (ret := none) (by decide) rfl ?_
  intro p e s m args below meth c s₁ B hml hv
  obtain ⟨rfl, hsz, hP, hK, hE, hD0⟩ := hv
  have hx := B.exec
  have hb := B.bytes
  have hr := B.returns
  have hts := atoms_spec (ws := w_Reader_takePlain) B.pre
  have htt : ∀ w ∈ tw_T, w.before _ s = true := fun w h => hts w (List.mem_cons_of_mem _ h)
  have hown : s.vm.findClass R_Reader = some m.cls := findClass_of_methodNamed B.named
  have hlocks := B.notSynchronized
  subst hsz
  have hD := hD0.self (sz := s.heap.size)
  generalize hAe : (va_A (TW cI u o i a g) s.heap.size) = A at hD hE ⊢
  have hA : ∀ q : Nat, s.heap.size ≤ q → A q := fun q h => by rw [← hAe]; exact Or.inr h
  have hS : va_S A s.heap s.heap [] := va_S.rf
  obtain ⟨mc, ms, emc, ems⟩ : ∃ mc ms : Nat, k2.1 = mc ∧ k2.2 = ms := ⟨_, _, rfl, rfl⟩
  have hkc : 0 + k2.1 = mc := by rw [Nat.zero_add]; exact emc
  have hks : 0 + k2.2 = ms := by rw [Nat.zero_add]; exact ems
  rw [emc, ems]
  clear emc ems
  have hl := lv_entry ([.ref ((u 7)), .int v1, .int v2]) (n := 4) (Nat.le_of_ble_eq_true rfl)
  rw [lg_entry_eq]
  generalize (lg_sl ([.ref ((u 7)), .int v1, .int v2]) ++ List.replicate (4 - (lg_sl ([.ref ((u 7)), .int v1, .int v2])).length) Slot.unset).toArray = ls at hl ⊢
  have hl : lv_has ls 4 [(0, .ref ((u 7))), (1, .int v1), (2, .int v2)] := hl
  rw [m_Reader_takePlain] at hm
  refine lv_iload_n hx hb d_Reader_takePlain_0 rfl (lv_at hl 1 rfl) ?_
  obtain ⟨r_2, h_1, hm⟩ := ob0_some hm
  have hFc := x_free0 hS hA
  refine xg_calli (va_runS (As := [.int v1]) (rest := []) ⟨hx, hb, hml, hown, hts⟩ (x_Heap_isWord l s.heap.size n h_1) (va_cwS 1 hts (tw_GS tw_cons cw_Heap_isWord lk_Reader_138 st_Heap_isWord ini_Heap) rfl rfl rfl hd_Heap_isWord ⟨Nat.le_of_ble_eq_true rfl, Nat.le_of_ble_eq_true rfl⟩) xpS0 rfl rfl hl.1 rfl (lv_room (Nat.le_of_ble_eq_true rfl)) d_Reader_takePlain_1 ⟨show 0 + 0 ≤ mc by omega, show 0 + 0 ≤ ms by omega⟩) hS (fun q _ h => hFc q h) hFc (fun kc_3 ks_4 r9 u9 t9 H locs ekc eks ht hvm e9 hB hz1 hk1 hS => ?_)
  replace hkc : kc_3 + k2.1 = mc := by omega
  replace hks : ks_4 + k2.2 = ms := by omega
  clear ekc eks
  have e9 : r_2 = r9 := e9
  subst e9
  replace hP := x_keep hP hk1
  clear hFc hk1 hz1 hvm hB ht
  refine lv_if_eq (tgt := 18) hx hb d_Reader_takePlain_4 (by decide) (fun c_5 => ?_) (fun c_5 => ?_)
  · replace hm := if_t c_5 hm
    refine lv_iconst (v := 0) hx hb d_Reader_takePlain_18 (by decide) ?_
    exact lb_Reader_takePlain_19 l dC dI cI adK adV adA u n hx hb hml hown hts hK hE hA hr hlocks _ _ _ _ _ _ _ hm o kc_3 ks_4 hkc hks _ _ _ hP hD hS (lv_sub hl [0, 1, 2] rfl)
  · replace hm := if_f c_5 hm
    refine lv_aload_n hx hb d_Reader_takePlain_7 rfl (lv_at hl 0 rfl) ?_
    refine va_get (D := (dC, dI)) (ci := 7) (v := .ref ((u 1))) (C := R_Reader) (T := F_Reader) (N := 19) hx hb htt iw_Reader hown hK hP 7 xo_7 rfl 0 (Nat.le_of_ble_eq_true rfl) (htt _ lk_Reader_30) (fun _ h9 => h9) xg_7_0 d_Reader_takePlain_8 ?_
    refine lv_iload_n hx hb d_Reader_takePlain_11 rfl (lv_at hl 1 rfl) ?_
    obtain ⟨r_7, h_6, hm⟩ := ob0_some hm
    have hFc := x_free0 hS hA
    refine xg_calli (va_runV (As := [.int v1]) (rest := []) ⟨hx, hb, hml, hown, hts⟩ (x_Heap_meaning l dC dI cI adK adV adA u o g H.size n h_6) (cwV 1 hts (tw_GV tw_cons cw_Heap_meaning lk_Reader_141 in_Heap_meaning sel_Heap_meaning ini_Heap) rfl rfl rfl ⟨rfl, hd_Heap_meaning⟩ ⟨Nat.le_of_ble_eq_true rfl, Nat.le_of_ble_eq_true rfl⟩) (xpVr hK hP hS hE hFc xo_1 rfl) rfl rfl hl.1 rfl (lv_room (Nat.le_of_ble_eq_true rfl)) d_Reader_takePlain_12 ⟨show kc_3 + 0 ≤ mc by omega, show ks_4 + 0 ≤ ms by omega⟩) hS (fun q _ h => hFc q h) hFc (fun kc_8 ks_9 r9 u9 t9 H locs ekc eks ht hvm e9 hB hz1 hk1 hS => ?_)
    replace hkc : kc_8 + k2.1 = mc := by omega
    replace hks : ks_9 + k2.2 = ms := by omega
    clear ekc eks
    have e9 : r_7 = r9 := e9
    subst e9
    replace hP := x_keep hP hk1
    clear hFc hk1 hz1 hvm hB ht
    refine lv_goto (tgt := 19) hx hb d_Reader_takePlain_15 (by decide) ?_
    exact lb_Reader_takePlain_19 l dC dI cI adK adV adA u n hx hb hml hown hts hK hE hA hr hlocks _ _ _ _ _ _ _ hm o kc_8 ks_9 hkc hks _ _ _ hP hD hS (lv_sub hl [0, 1, 2] rfl)

def m_Names_moveAll_b2 (n : Nat) : Nat → (Nat → Int32) → (Nat → Nat → Int32) → (Nat → Nat) → Int32 → Option ((Nat → Int32) × (Nat → Nat → Int32) × (Nat → Nat) × (Nat × Nat) × Int32)
  | 0, _, _, _, _ => none
  | f + 1, i, a, g, v1 => if ((i 12)) ≤ v1 then some (i, a, g, (0, 0), (0 : Int32)) else ck v1 64 (obG (m_Heap_moved n g i a (a 10 v1.toNatClampNeg)) (fun i_4 a_5 g_6 r_8 => ck v1 64 (ob1 (sv a_5 10 v1.toNatClampNeg r_8 : Nat → Nat → Int32) (fun a_14 => ck v1 64 (obG (m_Heap_moved n g_6 i_4 a_14 (a_14 11 v1.toNatClampNeg)) (fun i_17 a_18 g_19 r_21 => ck v1 64 (ob1 (sv a_18 11 v1.toNatClampNeg r_21 : Nat → Nat → Int32) (fun a_27 => ob1 (v1 + 1 : Int32) (fun x_28 => m_Names_moveAll_b2 n f i_17 a_27 g_19 x_28)))))))))
set_option maxHeartbeats 4000000 in
set_option maxRecDepth 100000 in
theorem lb_Names_moveAll_2 (l : Launch) (dC : Nat → ClassId) (dI : Nat → Nat → Nat) (cI : ClassId) (adK adV adA u : Nat → Nat) (n : Nat) {p : Program} {e : Env} {s : State} {m : MethodId} {args : Array Value} {below : List Frame} {meth : Method} {c : Code} {A : Nat → Prop} (hx : p.tables.exec = Jvm.exec) (hb : c.code = b_Names_moveAll) (hml : c.maxLocals = 2) (hown : s.vm.findClass R_Names = some m.cls) (hts : ∀ w ∈ w_Names_moveAll, w.before args s = true) (hK : va_K (dC, dI) classes [(cI, .int)] s) (hE : tw_E adK adV adA A s s.heap) (hA : ∀ q : Nat, s.heap.size ≤ q → A q) (hr : meth.sig.returnType = none) (hlocks : meth.locks = false) {mc ms : Nat} {i2 : Nat → Int32} {a2 : Nat → Nat → Int32} {g2 : Nat → Nat} {r2 : Int32} : ∀ (f : Nat) (i : Nat → Int32) (a : Nat → Nat → Int32) (g : Nat → Nat) (v1 : Int32) (k2 : Nat × Nat), m_Names_moveAll_b2 n f i a g v1 = some (i2, a2, g2, k2, r2) → ∀ (o : Nat → Nat) (kc ks : Nat), kc + k2.1 = mc → ks + k2.2 = ms → ∀ (H : Heap) (locs : List Loc) (ls : Array Slot), va_P (dC, dI) classes (TW cI u o i a g) H → va_D A (TW cI u o i a g) → va_S A s.heap H locs → lv_has ls 2 [(0, .ref ((u 3))), (1, .int v1)] → W p l e ({ frames := 5, cells := mc, slots := ms, locals := 130 } : Room) s m args below meth c H locs kc ks (MQ below (va_Qv xVg (xBg dC dI cI u g2 i2 a2 A) A) args s mc ms A) (F0 m 2 ls []) := by
  have htt : ∀ w ∈ tw_T, w.before _ s = true := fun w h => hts w (List.mem_cons_of_mem _ h)
  intro f
  induction f with
  | zero =>
    intro i a g v1 k2 hm
    rw [m_Names_moveAll_b2] at hm
    cases hm
  | succ f ih =>
    intro i a g v1 k2 hm o kc ks hkc hks H locs ls hP hD hS hl
    rw [m_Names_moveAll_b2] at hm
    refine lv_iload_n hx hb d_Names_moveAll_2 rfl (lv_at hl 1 rfl) ?_
    refine lv_aload_n hx hb d_Names_moveAll_3 rfl (lv_at hl 0 rfl) ?_
    refine va_get (D := (dC, dI)) (ci := 3) (v := .int (i 12)) (C := R_Names) (T := F_Names) (N := 9) hx hb htt iw_Names hown hK hP 3 xo_3 rfl 3 (Nat.le_of_ble_eq_true rfl) (htt _ lk_Names_41) (fun _ h9 => h9) xg_3_3 d_Names_moveAll_4 ?_
    refine lv_icmp_ge (tgt := 54) hx hb d_Names_moveAll_7 (by decide) (fun c_1 => ?_) (fun c_1 => ?_)
    · replace hm := if_t c_1 hm
      obtain ⟨e1, e2, e4, e5, e6, e3⟩ := re5 hm
      obtain ⟨hP, hD⟩ := x_eqg e1 e2 e4 hP hD
      refine W.widen (k := mc) (n := ms) (show kc ≤ mc by omega) (show ks ≤ ms by omega) ?_
      exact W.vret hx hb hr (fun t9 ht hW => ⟨⟨o, rfl, trivial, by rw [ht]; exact hP, hD⟩, hS.F ht⟩) hS.2.2 d_Names_moveAll_54
    · replace hm := if_f c_1 hm
      refine lv_aload_n hx hb d_Names_moveAll_10 rfl (lv_at hl 0 rfl) ?_
      refine va_get (D := (dC, dI)) (ci := 3) (v := .ref ((u 20))) (C := R_Names) (T := F_Names) (N := 9) hx hb htt iw_Names hown hK hP 3 xo_3 rfl 1 (Nat.le_of_ble_eq_true rfl) (htt _ lk_Names_11) (fun _ h9 => h9) xg_3_1 d_Names_moveAll_11 ?_
      refine lv_iload_n hx hb d_Names_moveAll_14 rfl (lv_at hl 1 rfl) ?_
      refine lv_aload_n hx hb d_Names_moveAll_15 rfl (lv_at hl 0 rfl) ?_
      refine va_get (D := (dC, dI)) (ci := 3) (v := .ref ((u 1))) (C := R_Names) (T := F_Names) (N := 9) hx hb htt iw_Names hown hK hP 3 xo_3 rfl 0 (Nat.le_of_ble_eq_true rfl) (htt _ lk_Names_27) (fun _ h9 => h9) xg_3_0 d_Names_moveAll_16 ?_
      refine lv_aload_n hx hb d_Names_moveAll_19 rfl (lv_at hl 0 rfl) ?_
      refine va_get (D := (dC, dI)) (ci := 3) (v := .ref ((u 20))) (C := R_Names) (T := F_Names) (N := 9) hx hb htt iw_Names hown hK hP 3 xo_3 rfl 1 (Nat.le_of_ble_eq_true rfl) (htt _ lk_Names_11) (fun _ h9 => h9) xg_3_1 d_Names_moveAll_20 ?_
      refine lv_iload_n hx hb d_Names_moveAll_23 rfl (lv_at hl 1 rfl) ?_
      obtain ⟨h_2, hm⟩ := ck_some hm
      refine va_iald hx hb hK hP 22 0 twA_10 rfl h_2 d_Names_moveAll_24 ?_
      obtain ⟨i_4, a_5, g_6, k_7, r_8, k_9, h_3, hm, e7, e8⟩ := obG_some hm
      have hFc := x_free hD hS hA
      refine xg_calli (va_runV (As := [.int (a 10 v1.toNatClampNeg)]) (rest := [.int v1, .ref ((u 20))]) ⟨hx, hb, hml, hown, hts⟩ (x_Heap_moved l dC dI cI adK adV adA u o g H.size n h_3) (cwV 1 hts (tw_GV tw_cons cw_Heap_moved lk_Names_63 in_Heap_moved sel_Heap_moved ini_Heap) rfl rfl rfl ⟨rfl, hd_Heap_moved⟩ ⟨Nat.le_of_ble_eq_true rfl, Nat.le_of_ble_eq_true rfl⟩) (xpV hK hP hD hS hE hFc xo_1 rfl) rfl rfl hl.1 rfl (lv_room (Nat.le_of_ble_eq_true rfl)) d_Names_moveAll_25 ⟨show kc + k_7.1 ≤ mc by omega, show ks + k_7.2 ≤ ms by omega⟩) hS (fun q _ h => hFc q h) hFc (fun kc_11 ks_12 r9 o_10 t9 H locs ekc eks ht hvm e9 hB hz1 hk1 hS => ?_)
      replace hkc : kc_11 + k_9.1 = mc := by omega
      replace hks : ks_12 + k_9.2 = ms := by omega
      clear e7 e8
      clear ekc eks
      have e9 : r_8 = r9 := e9
      subst e9
      obtain ⟨hP, hD⟩ := x_aftg hB ht hFc
      clear hFc hk1 hz1 hvm hB ht
      obtain ⟨h_13, hm⟩ := ck_some hm
      refine va_iast hx hb hK hP hD hS 22 0 twA_10 rfl h_13 d_Names_moveAll_28 (fun H locs hP hD hS => ?_)
      obtain ⟨a_14, ea_14⟩ : ∃ y9 : Nat → Nat → Int32, y9 = sv a_5 10 v1.toNatClampNeg r_8 := ⟨_, rfl⟩
      replace hm := ob1_at ea_14 hm
      obtain ⟨hP, hD⟩ := xv_10 ea_14 hP hD
      refine lv_aload_n hx hb d_Names_moveAll_29 rfl (lv_at hl 0 rfl) ?_
      refine va_get (D := (dC, dI)) (ci := 3) (v := .ref ((u 21))) (C := R_Names) (T := F_Names) (N := 9) hx hb htt iw_Names hown hK hP 3 xo_3 rfl 2 (Nat.le_of_ble_eq_true rfl) (htt _ lk_Names_15) (fun _ h9 => h9) xg_3_2 d_Names_moveAll_30 ?_
      refine lv_iload_n hx hb d_Names_moveAll_33 rfl (lv_at hl 1 rfl) ?_
      refine lv_aload_n hx hb d_Names_moveAll_34 rfl (lv_at hl 0 rfl) ?_
      refine va_get (D := (dC, dI)) (ci := 3) (v := .ref ((u 1))) (C := R_Names) (T := F_Names) (N := 9) hx hb htt iw_Names hown hK hP 3 xo_3 rfl 0 (Nat.le_of_ble_eq_true rfl) (htt _ lk_Names_27) (fun _ h9 => h9) xg_3_0 d_Names_moveAll_35 ?_
      refine lv_aload_n hx hb d_Names_moveAll_38 rfl (lv_at hl 0 rfl) ?_
      refine va_get (D := (dC, dI)) (ci := 3) (v := .ref ((u 21))) (C := R_Names) (T := F_Names) (N := 9) hx hb htt iw_Names hown hK hP 3 xo_3 rfl 2 (Nat.le_of_ble_eq_true rfl) (htt _ lk_Names_15) (fun _ h9 => h9) xg_3_2 d_Names_moveAll_39 ?_
      refine lv_iload_n hx hb d_Names_moveAll_42 rfl (lv_at hl 1 rfl) ?_
      obtain ⟨h_15, hm⟩ := ck_some hm
      refine va_iald hx hb hK hP 23 0 twA_11 rfl h_15 d_Names_moveAll_43 ?_
      obtain ⟨i_17, a_18, g_19, k_20, r_21, k_22, h_16, hm, e7, e8⟩ := obG_some hm
      have hFc := x_free hD hS hA
      refine xg_calli (va_runV (As := [.int (a_14 11 v1.toNatClampNeg)]) (rest := [.int v1, .ref ((u 21))]) ⟨hx, hb, hml, hown, hts⟩ (x_Heap_moved l dC dI cI adK adV adA u o_10 g_6 H.size n h_16) (cwV 1 hts (tw_GV tw_cons cw_Heap_moved lk_Names_63 in_Heap_moved sel_Heap_moved ini_Heap) rfl rfl rfl ⟨rfl, hd_Heap_moved⟩ ⟨Nat.le_of_ble_eq_true rfl, Nat.le_of_ble_eq_true rfl⟩) (xpV hK hP hD hS hE hFc xo_1 rfl) rfl rfl hl.1 rfl (lv_room (Nat.le_of_ble_eq_true rfl)) d_Names_moveAll_44 ⟨show kc_11 + k_20.1 ≤ mc by omega, show ks_12 + k_20.2 ≤ ms by omega⟩) hS (fun q _ h => hFc q h) hFc (fun kc_24 ks_25 r9 o_23 t9 H locs ekc eks ht hvm e9 hB hz1 hk1 hS => ?_)
      replace hkc : kc_24 + k_22.1 = mc := by omega
      replace hks : ks_25 + k_22.2 = ms := by omega
      clear e7 e8
      clear ekc eks
      have e9 : r_21 = r9 := e9
      subst e9
      obtain ⟨hP, hD⟩ := x_aftg hB ht hFc
      clear hFc hk1 hz1 hvm hB ht
      obtain ⟨h_26, hm⟩ := ck_some hm
      refine va_iast hx hb hK hP hD hS 23 0 twA_11 rfl h_26 d_Names_moveAll_47 (fun H locs hP hD hS => ?_)
      obtain ⟨a_27, ea_27⟩ : ∃ y9 : Nat → Nat → Int32, y9 = sv a_18 11 v1.toNatClampNeg r_21 := ⟨_, rfl⟩
      replace hm := ob1_at ea_27 hm
      obtain ⟨hP, hD⟩ := xv_11 ea_27 hP hD
      obtain ⟨x_28, ex_28⟩ : ∃ y9 : Int32, y9 = v1 + 1 := ⟨_, rfl⟩
      replace hm := ob1_at ex_28 hm
      refine lv_iinc (v := x_28) (lv' := [(1, .int x_28), (0, .ref ((u 3)))]) hx hb d_Names_moveAll_48 hl (k := 1) rfl (by rw [ex_28]; rfl) (by decide) rfl (fun ls hl => ?_)
      refine lv_goto (tgt := 2) hx hb d_Names_moveAll_51 (by decide) ?_
      exact ih _ _ _ _ _ hm o_23 kc_24 ks_25 hkc hks _ _ _ hP hD hS (lv_sub hl [1, 0] rfl)
def m_Names_moveAll (n : Nat) (g : Nat → Nat) (i : Nat → Int32) (a : Nat → Nat → Int32)  : Option ((Nat → Int32) × (Nat → Nat → Int32) × (Nat → Nat) × (Nat × Nat) × Int32) := m_Names_moveAll_b2 n n i a g (0 : Int32)
set_option maxHeartbeats 4000000 in
set_option maxRecDepth 100000 in
theorem x_Names_moveAll (l : Launch) (dC : Nat → ClassId) (dI : Nat → Nat → Nat) (cI : ClassId) (adK adV adA u o g : Nat → Nat) (sz : Nat) (n : Nat) {i : Nat → Int32} {a : Nat → Nat → Int32}  {i2 : Nat → Int32} {a2 : Nat → Nat → Int32} {g2 : Nat → Nat} {k2 : Nat × Nat} {r2 : Int32} (hm : m_Names_moveAll n g i a = some (i2, a2, g2, k2, r2)) : Met l y_Names_moveAll w_Names_moveAll ({ frames := 5, cells := k2.1, slots := k2.2, locals := 130 } : Room) (va_Pc [.ref ((u 3))] (xE dC dI cI adK adV adA u o g i a sz)) (va_Qv xVg (xBg dC dI cI u g2 i2 a2 (va_A (TW cI u o i a g) sz)) (va_A (TW cI u o i a g) sz)) k2.1 k2.2 ((va_A (TW cI u o i a g) sz)) := by
  refine Met.ofW (cc := b_Names_moveAll) (maxL := 2) (ret := none) (by decide) rfl ?_
  intro p e s m args below meth c s₁ B hml hv
  obtain ⟨rfl, hsz, hP, hK, hE, hD0⟩ := hv
  have hx := B.exec
  have hb := B.bytes
  have hr := B.returns
  have hts := atoms_spec (ws := w_Names_moveAll) B.pre
  have htt : ∀ w ∈ tw_T, w.before _ s = true := fun w h => hts w (List.mem_cons_of_mem _ h)
  have hown : s.vm.findClass R_Names = some m.cls := findClass_of_methodNamed B.named
  have hlocks := B.notSynchronized
  subst hsz
  have hD := hD0.self (sz := s.heap.size)
  generalize hAe : (va_A (TW cI u o i a g) s.heap.size) = A at hD hE ⊢
  have hA : ∀ q : Nat, s.heap.size ≤ q → A q := fun q h => by rw [← hAe]; exact Or.inr h
  have hS : va_S A s.heap s.heap [] := va_S.rf
  obtain ⟨mc, ms, emc, ems⟩ : ∃ mc ms : Nat, k2.1 = mc ∧ k2.2 = ms := ⟨_, _, rfl, rfl⟩
  have hkc : 0 + k2.1 = mc := by rw [Nat.zero_add]; exact emc
  have hks : 0 + k2.2 = ms := by rw [Nat.zero_add]; exact ems
  rw [emc, ems]
  clear emc ems
  have hl := lv_entry ([.ref ((u 3))]) (n := 2) (Nat.le_of_ble_eq_true rfl)
  rw [lg_entry_eq]
  generalize (lg_sl ([.ref ((u 3))]) ++ List.replicate (2 - (lg_sl ([.ref ((u 3))])).length) Slot.unset).toArray = ls at hl ⊢
  have hl : lv_has ls 2 [(0, .ref ((u 3)))] := hl
  rw [m_Names_moveAll] at hm
  refine lv_iconst (v := 0) hx hb d_Names_moveAll_0 (by decide) ?_
  refine lv_istore_n (lv' := [(1, .int 0), (0, .ref ((u 3)))]) hx hb d_Names_moveAll_1 rfl hl (by decide) rfl (fun ls hl => ?_)
  exact lb_Names_moveAll_2 l dC dI cI adK adV adA u n hx hb hml hown hts hK hE hA hr hlocks n _ _ _ _ _ hm o 0 0 hkc hks _ _ _ hP hD hS (lv_sub hl [1, 0] rfl)

def m_Procedures_moveAll_b2 (n : Nat) : Nat → (Nat → Int32) → (Nat → Nat → Int32) → (Nat → Nat) → Int32 → Option ((Nat → Int32) × (Nat → Nat → Int32) × (Nat → Nat) × (Nat × Nat) × Int32)
  | 0, _, _, _, _ => none
  | f + 1, i, a, g, v1 => if ((i 15)) ≤ v1 then some (i, a, g, (0, 0), (0 : Int32)) else ck v1 40 (obG (m_Heap_moved n g i a (a 15 v1.toNatClampNeg)) (fun i_4 a_5 g_6 r_8 => ck v1 40 (ob1 (sv a_5 15 v1.toNatClampNeg r_8 : Nat → Nat → Int32) (fun a_14 => ck v1 40 (obG (m_Heap_moved n g_6 i_4 a_14 (a_14 16 v1.toNatClampNeg)) (fun i_17 a_18 g_19 r_21 => ck v1 40 (ob1 (sv a_18 16 v1.toNatClampNeg r_21 : Nat → Nat → Int32) (fun a_27 => ck v1 40 (obG (m_Heap_moved n g_19 i_17 a_27 (a_27 17 v1.toNatClampNeg)) (fun i_30 a_31 g_32 r_34 => ck v1 40 (ob1 (sv a_31 17 v1.toNatClampNeg r_34 : Nat → Nat → Int32) (fun a_40 => ob1 (v1 + 1 : Int32) (fun x_41 => m_Procedures_moveAll_b2 n f i_30 a_40 g_32 x_41)))))))))))))
set_option maxHeartbeats 4000000 in
set_option maxRecDepth 100000 in
theorem lb_Procedures_moveAll_2 (l : Launch) (dC : Nat → ClassId) (dI : Nat → Nat → Nat) (cI : ClassId) (adK adV adA u : Nat → Nat) (n : Nat) {p : Program} {e : Env} {s : State} {m : MethodId} {args : Array Value} {below : List Frame} {meth : Method} {c : Code} {A : Nat → Prop} (hx : p.tables.exec = Jvm.exec) (hb : c.code = b_Procedures_moveAll) (hml : c.maxLocals = 2) (hown : s.vm.findClass R_Procedures = some m.cls) (hts : ∀ w ∈ w_Procedures_moveAll, w.before args s = true) (hK : va_K (dC, dI) classes [(cI, .int)] s) (hE : tw_E adK adV adA A s s.heap) (hA : ∀ q : Nat, s.heap.size ≤ q → A q) (hr : meth.sig.returnType = none) (hlocks : meth.locks = false) {mc ms : Nat} {i2 : Nat → Int32} {a2 : Nat → Nat → Int32} {g2 : Nat → Nat} {r2 : Int32} : ∀ (f : Nat) (i : Nat → Int32) (a : Nat → Nat → Int32) (g : Nat → Nat) (v1 : Int32) (k2 : Nat × Nat), m_Procedures_moveAll_b2 n f i a g v1 = some (i2, a2, g2, k2, r2) → ∀ (o : Nat → Nat) (kc ks : Nat), kc + k2.1 = mc → ks + k2.2 = ms → ∀ (H : Heap) (locs : List Loc) (ls : Array Slot), va_P (dC, dI) classes (TW cI u o i a g) H → va_D A (TW cI u o i a g) → va_S A s.heap H locs → lv_has ls 2 [(0, .ref ((u 4))), (1, .int v1)] → W p l e ({ frames := 5, cells := mc, slots := ms, locals := 130 } : Room) s m args below meth c H locs kc ks (MQ below (va_Qv xVg (xBg dC dI cI u g2 i2 a2 A) A) args s mc ms A) (F0 m 2 ls []) := by
  have htt : ∀ w ∈ tw_T, w.before _ s = true := fun w h => hts w (List.mem_cons_of_mem _ h)
  intro f
  induction f with
  | zero =>
    intro i a g v1 k2 hm
    rw [m_Procedures_moveAll_b2] at hm
    cases hm
  | succ f ih =>
    intro i a g v1 k2 hm o kc ks hkc hks H locs ls hP hD hS hl
    rw [m_Procedures_moveAll_b2] at hm
    refine lv_iload_n hx hb d_Procedures_moveAll_2 rfl (lv_at hl 1 rfl) ?_
    refine lv_aload_n hx hb d_Procedures_moveAll_3 rfl (lv_at hl 0 rfl) ?_
    refine va_get (D := (dC, dI)) (ci := 4) (v := .int (i 15)) (C := R_Procedures) (T := F_Procedures) (N := 8) hx hb htt iw_Procedures hown hK hP 4 xo_4 rfl 4 (Nat.le_of_ble_eq_true rfl) (htt _ lk_Procedures_31) (fun _ h9 => h9) xg_4_4 d_Procedures_moveAll_4 ?_
    refine lv_icmp_ge (tgt := 73) hx hb d_Procedures_moveAll_7 (by decide) (fun c_1 => ?_) (fun c_1 => ?_)
    · replace hm := if_t c_1 hm
      obtain ⟨e1, e2, e4, e5, e6, e3⟩ := re5 hm
      obtain ⟨hP, hD⟩ := x_eqg e1 e2 e4 hP hD
      refine W.widen (k := mc) (n := ms) (show kc ≤ mc by omega) (show ks ≤ ms by omega) ?_
      exact W.vret hx hb hr (fun t9 ht hW => ⟨⟨o, rfl, trivial, by rw [ht]; exact hP, hD⟩, hS.F ht⟩) hS.2.2 d_Procedures_moveAll_73
    · replace hm := if_f c_1 hm
      refine lv_aload_n hx hb d_Procedures_moveAll_10 rfl (lv_at hl 0 rfl) ?_
      refine va_get (D := (dC, dI)) (ci := 4) (v := .ref ((u 25))) (C := R_Procedures) (T := F_Procedures) (N := 8) hx hb htt iw_Procedures hown hK hP 4 xo_4 rfl 1 (Nat.le_of_ble_eq_true rfl) (htt _ lk_Procedures_11) (fun _ h9 => h9) xg_4_1 d_Procedures_moveAll_11 ?_
      refine lv_iload_n hx hb d_Procedures_moveAll_14 rfl (lv_at hl 1 rfl) ?_
      refine lv_aload_n hx hb d_Procedures_moveAll_15 rfl (lv_at hl 0 rfl) ?_
      refine va_get (D := (dC, dI)) (ci := 4) (v := .ref ((u 1))) (C := R_Procedures) (T := F_Procedures) (N := 8) hx hb htt iw_Procedures hown hK hP 4 xo_4 rfl 0 (Nat.le_of_ble_eq_true rfl) (htt _ lk_Procedures_27) (fun _ h9 => h9) xg_4_0 d_Procedures_moveAll_16 ?_
      refine lv_aload_n hx hb d_Procedures_moveAll_19 rfl (lv_at hl 0 rfl) ?_
      refine va_get (D := (dC, dI)) (ci := 4) (v := .ref ((u 25))) (C := R_Procedures) (T := F_Procedures) (N := 8) hx hb htt iw_Procedures hown hK hP 4 xo_4 rfl 1 (Nat.le_of_ble_eq_true rfl) (htt _ lk_Procedures_11) (fun _ h9 => h9) xg_4_1 d_Procedures_moveAll_20 ?_
      refine lv_iload_n hx hb d_Procedures_moveAll_23 rfl (lv_at hl 1 rfl) ?_
      obtain ⟨h_2, hm⟩ := ck_some hm
      refine va_iald hx hb hK hP 27 0 twA_15 rfl h_2 d_Procedures_moveAll_24 ?_
      obtain ⟨i_4, a_5, g_6, k_7, r_8, k_9, h_3, hm, e7, e8⟩ := obG_some hm
      have hFc := x_free hD hS hA
      refine xg_calli (va_runV (As := [.int (a 15 v1.toNatClampNeg)]) (rest := [.int v1, .ref ((u 25))]) ⟨hx, hb, hml, hown, hts⟩ (x_Heap_moved l dC dI cI adK adV adA u o g H.size n h_3) (cwV 1 hts (tw_GV tw_cons cw_Heap_moved lk_Procedures_45 in_Heap_moved sel_Heap_moved ini_Heap) rfl rfl rfl ⟨rfl, hd_Heap_moved⟩ ⟨Nat.le_of_ble_eq_true rfl, Nat.le_of_ble_eq_true rfl⟩) (xpV hK hP hD hS hE hFc xo_1 rfl) rfl rfl hl.1 rfl (lv_room (Nat.le_of_ble_eq_true rfl)) d_Procedures_moveAll_25 ⟨show kc + k_7.1 ≤ mc by omega, show ks + k_7.2 ≤ ms by omega⟩) hS (fun q _ h => hFc q h) hFc (fun kc_11 ks_12 r9 o_10 t9 H locs ekc eks ht hvm e9 hB hz1 hk1 hS => ?_)
      replace hkc : kc_11 + k_9.1 = mc := by omega
      replace hks : ks_12 + k_9.2 = ms := by omega
      clear e7 e8
      clear ekc eks
      have e9 : r_8 = r9 := e9
      subst e9
      obtain ⟨hP, hD⟩ := x_aftg hB ht hFc
      clear hFc hk1 hz1 hvm hB ht
      obtain ⟨h_13, hm⟩ := ck_some hm
      refine va_iast hx hb hK hP hD hS 27 0 twA_15 rfl h_13 d_Procedures_moveAll_28 (fun H locs hP hD hS => ?_)
      obtain ⟨a_14, ea_14⟩ : ∃ y9 : Nat → Nat → Int32, y9 = sv a_5 15 v1.toNatClampNeg r_8 := ⟨_, rfl⟩
      replace hm := ob1_at ea_14 hm
      obtain ⟨hP, hD⟩ := xv_15 ea_14 hP hD
      refine lv_aload_n hx hb d_Procedures_moveAll_29 rfl (lv_at hl 0 rfl) ?_
      refine va_get (D := (dC, dI)) (ci := 4) (v := .ref ((u 26))) (C := R_Procedures) (T := F_Procedures) (N := 8) hx hb htt iw_Procedures hown hK hP 4 xo_4 rfl 2 (Nat.le_of_ble_eq_true rfl) (htt _ lk_Procedures_15) (fun _ h9 => h9) xg_4_2 d_Procedures_moveAll_30 ?_
      refine lv_iload_n hx hb d_Procedures_moveAll_33 rfl (lv_at hl 1 rfl) ?_
      refine lv_aload_n hx hb d_Procedures_moveAll_34 rfl (lv_at hl 0 rfl) ?_
      refine va_get (D := (dC, dI)) (ci := 4) (v := .ref ((u 1))) (C := R_Procedures) (T := F_Procedures) (N := 8) hx hb htt iw_Procedures hown hK hP 4 xo_4 rfl 0 (Nat.le_of_ble_eq_true rfl) (htt _ lk_Procedures_27) (fun _ h9 => h9) xg_4_0 d_Procedures_moveAll_35 ?_
      refine lv_aload_n hx hb d_Procedures_moveAll_38 rfl (lv_at hl 0 rfl) ?_
      refine va_get (D := (dC, dI)) (ci := 4) (v := .ref ((u 26))) (C := R_Procedures) (T := F_Procedures) (N := 8) hx hb htt iw_Procedures hown hK hP 4 xo_4 rfl 2 (Nat.le_of_ble_eq_true rfl) (htt _ lk_Procedures_15) (fun _ h9 => h9) xg_4_2 d_Procedures_moveAll_39 ?_
      refine lv_iload_n hx hb d_Procedures_moveAll_42 rfl (lv_at hl 1 rfl) ?_
      obtain ⟨h_15, hm⟩ := ck_some hm
      refine va_iald hx hb hK hP 28 0 twA_16 rfl h_15 d_Procedures_moveAll_43 ?_
      obtain ⟨i_17, a_18, g_19, k_20, r_21, k_22, h_16, hm, e7, e8⟩ := obG_some hm
      have hFc := x_free hD hS hA
      refine xg_calli (va_runV (As := [.int (a_14 16 v1.toNatClampNeg)]) (rest := [.int v1, .ref ((u 26))]) ⟨hx, hb, hml, hown, hts⟩ (x_Heap_moved l dC dI cI adK adV adA u o_10 g_6 H.size n h_16) (cwV 1 hts (tw_GV tw_cons cw_Heap_moved lk_Procedures_45 in_Heap_moved sel_Heap_moved ini_Heap) rfl rfl rfl ⟨rfl, hd_Heap_moved⟩ ⟨Nat.le_of_ble_eq_true rfl, Nat.le_of_ble_eq_true rfl⟩) (xpV hK hP hD hS hE hFc xo_1 rfl) rfl rfl hl.1 rfl (lv_room (Nat.le_of_ble_eq_true rfl)) d_Procedures_moveAll_44 ⟨show kc_11 + k_20.1 ≤ mc by omega, show ks_12 + k_20.2 ≤ ms by omega⟩) hS (fun q _ h => hFc q h) hFc (fun kc_24 ks_25 r9 o_23 t9 H locs ekc eks ht hvm e9 hB hz1 hk1 hS => ?_)
      replace hkc : kc_24 + k_22.1 = mc := by omega
      replace hks : ks_25 + k_22.2 = ms := by omega
      clear e7 e8
      clear ekc eks
      have e9 : r_21 = r9 := e9
      subst e9
      obtain ⟨hP, hD⟩ := x_aftg hB ht hFc
      clear hFc hk1 hz1 hvm hB ht
      obtain ⟨h_26, hm⟩ := ck_some hm
      refine va_iast hx hb hK hP hD hS 28 0 twA_16 rfl h_26 d_Procedures_moveAll_47 (fun H locs hP hD hS => ?_)
      obtain ⟨a_27, ea_27⟩ : ∃ y9 : Nat → Nat → Int32, y9 = sv a_18 16 v1.toNatClampNeg r_21 := ⟨_, rfl⟩
      replace hm := ob1_at ea_27 hm
      obtain ⟨hP, hD⟩ := xv_16 ea_27 hP hD
      refine lv_aload_n hx hb d_Procedures_moveAll_48 rfl (lv_at hl 0 rfl) ?_
      refine va_get (D := (dC, dI)) (ci := 4) (v := .ref ((u 27))) (C := R_Procedures) (T := F_Procedures) (N := 8) hx hb htt iw_Procedures hown hK hP 4 xo_4 rfl 3 (Nat.le_of_ble_eq_true rfl) (htt _ lk_Procedures_18) (fun _ h9 => h9) xg_4_3 d_Procedures_moveAll_49 ?_
      refine lv_iload_n hx hb d_Procedures_moveAll_52 rfl (lv_at hl 1 rfl) ?_
      refine lv_aload_n hx hb d_Procedures_moveAll_53 rfl (lv_at hl 0 rfl) ?_
      refine va_get (D := (dC, dI)) (ci := 4) (v := .ref ((u 1))) (C := R_Procedures) (T := F_Procedures) (N := 8) hx hb htt iw_Procedures hown hK hP 4 xo_4 rfl 0 (Nat.le_of_ble_eq_true rfl) (htt _ lk_Procedures_27) (fun _ h9 => h9) xg_4_0 d_Procedures_moveAll_54 ?_
      refine lv_aload_n hx hb d_Procedures_moveAll_57 rfl (lv_at hl 0 rfl) ?_
      refine va_get (D := (dC, dI)) (ci := 4) (v := .ref ((u 27))) (C := R_Procedures) (T := F_Procedures) (N := 8) hx hb htt iw_Procedures hown hK hP 4 xo_4 rfl 3 (Nat.le_of_ble_eq_true rfl) (htt _ lk_Procedures_18) (fun _ h9 => h9) xg_4_3 d_Procedures_moveAll_58 ?_
      refine lv_iload_n hx hb d_Procedures_moveAll_61 rfl (lv_at hl 1 rfl) ?_
      obtain ⟨h_28, hm⟩ := ck_some hm
      refine va_iald hx hb hK hP 29 0 twA_17 rfl h_28 d_Procedures_moveAll_62 ?_
      obtain ⟨i_30, a_31, g_32, k_33, r_34, k_35, h_29, hm, e7, e8⟩ := obG_some hm
      have hFc := x_free hD hS hA
      refine xg_calli (va_runV (As := [.int (a_27 17 v1.toNatClampNeg)]) (rest := [.int v1, .ref ((u 27))]) ⟨hx, hb, hml, hown, hts⟩ (x_Heap_moved l dC dI cI adK adV adA u o_23 g_19 H.size n h_29) (cwV 1 hts (tw_GV tw_cons cw_Heap_moved lk_Procedures_45 in_Heap_moved sel_Heap_moved ini_Heap) rfl rfl rfl ⟨rfl, hd_Heap_moved⟩ ⟨Nat.le_of_ble_eq_true rfl, Nat.le_of_ble_eq_true rfl⟩) (xpV hK hP hD hS hE hFc xo_1 rfl) rfl rfl hl.1 rfl (lv_room (Nat.le_of_ble_eq_true rfl)) d_Procedures_moveAll_63 ⟨show kc_24 + k_33.1 ≤ mc by omega, show ks_25 + k_33.2 ≤ ms by omega⟩) hS (fun q _ h => hFc q h) hFc (fun kc_37 ks_38 r9 o_36 t9 H locs ekc eks ht hvm e9 hB hz1 hk1 hS => ?_)
      replace hkc : kc_37 + k_35.1 = mc := by omega
      replace hks : ks_38 + k_35.2 = ms := by omega
      clear e7 e8
      clear ekc eks
      have e9 : r_34 = r9 := e9
      subst e9
      obtain ⟨hP, hD⟩ := x_aftg hB ht hFc
      clear hFc hk1 hz1 hvm hB ht
      obtain ⟨h_39, hm⟩ := ck_some hm
      refine va_iast hx hb hK hP hD hS 29 0 twA_17 rfl h_39 d_Procedures_moveAll_66 (fun H locs hP hD hS => ?_)
      obtain ⟨a_40, ea_40⟩ : ∃ y9 : Nat → Nat → Int32, y9 = sv a_31 17 v1.toNatClampNeg r_34 := ⟨_, rfl⟩
      replace hm := ob1_at ea_40 hm
      obtain ⟨hP, hD⟩ := xv_17 ea_40 hP hD
      obtain ⟨x_41, ex_41⟩ : ∃ y9 : Int32, y9 = v1 + 1 := ⟨_, rfl⟩
      replace hm := ob1_at ex_41 hm
      refine lv_iinc (v := x_41) (lv' := [(1, .int x_41), (0, .ref ((u 4)))]) hx hb d_Procedures_moveAll_67 hl (k := 1) rfl (by rw [ex_41]; rfl) (by decide) rfl (fun ls hl => ?_)
      refine lv_goto (tgt := 2) hx hb d_Procedures_moveAll_70 (by decide) ?_
      exact ih _ _ _ _ _ hm o_36 kc_37 ks_38 hkc hks _ _ _ hP hD hS (lv_sub hl [1, 0] rfl)
def m_Procedures_moveAll (n : Nat) (g : Nat → Nat) (i : Nat → Int32) (a : Nat → Nat → Int32)  : Option ((Nat → Int32) × (Nat → Nat → Int32) × (Nat → Nat) × (Nat × Nat) × Int32) := m_Procedures_moveAll_b2 n n i a g (0 : Int32)
set_option maxHeartbeats 4000000 in
set_option maxRecDepth 100000 in
theorem x_Procedures_moveAll (l : Launch) (dC : Nat → ClassId) (dI : Nat → Nat → Nat) (cI : ClassId) (adK adV adA u o g : Nat → Nat) (sz : Nat) (n : Nat) {i : Nat → Int32} {a : Nat → Nat → Int32}  {i2 : Nat → Int32} {a2 : Nat → Nat → Int32} {g2 : Nat → Nat} {k2 : Nat × Nat} {r2 : Int32} (hm : m_Procedures_moveAll n g i a = some (i2, a2, g2, k2, r2)) : Met l y_Procedures_moveAll w_Procedures_moveAll ({ frames := 5, cells := k2.1, slots := k2.2, locals := 130 } : Room) (va_Pc [.ref ((u 4))] (xE dC dI cI adK adV adA u o g i a sz)) (va_Qv xVg (xBg dC dI cI u g2 i2 a2 (va_A (TW cI u o i a g) sz)) (va_A (TW cI u o i a g) sz)) k2.1 k2.2 ((va_A (TW cI u o i a g) sz)) := by
  refine Met.ofW (cc := b_Procedures_moveAll) (maxL := 2) (ret := none) (by decide) rfl ?_
  intro p e s m args below meth c s₁ B hml hv
  obtain ⟨rfl, hsz, hP, hK, hE, hD0⟩ := hv
  have hx := B.exec
  have hb := B.bytes
  have hr := B.returns
  have hts := atoms_spec (ws := w_Procedures_moveAll) B.pre
  have htt : ∀ w ∈ tw_T, w.before _ s = true := fun w h => hts w (List.mem_cons_of_mem _ h)
  have hown : s.vm.findClass R_Procedures = some m.cls := findClass_of_methodNamed B.named
  have hlocks := B.notSynchronized
  subst hsz
  have hD := hD0.self (sz := s.heap.size)
  generalize hAe : (va_A (TW cI u o i a g) s.heap.size) = A at hD hE ⊢
  have hA : ∀ q : Nat, s.heap.size ≤ q → A q := fun q h => by rw [← hAe]; exact Or.inr h
  have hS : va_S A s.heap s.heap [] := va_S.rf
  obtain ⟨mc, ms, emc, ems⟩ : ∃ mc ms : Nat, k2.1 = mc ∧ k2.2 = ms := ⟨_, _, rfl, rfl⟩
  have hkc : 0 + k2.1 = mc := by rw [Nat.zero_add]; exact emc
  have hks : 0 + k2.2 = ms := by rw [Nat.zero_add]; exact ems
  rw [emc, ems]
  clear emc ems
  have hl := lv_entry ([.ref ((u 4))]) (n := 2) (Nat.le_of_ble_eq_true rfl)
  rw [lg_entry_eq]
  generalize (lg_sl ([.ref ((u 4))]) ++ List.replicate (2 - (lg_sl ([.ref ((u 4))])).length) Slot.unset).toArray = ls at hl ⊢
  have hl : lv_has ls 2 [(0, .ref ((u 4)))] := hl
  rw [m_Procedures_moveAll] at hm
  refine lv_iconst (v := 0) hx hb d_Procedures_moveAll_0 (by decide) ?_
  refine lv_istore_n (lv' := [(1, .int 0), (0, .ref ((u 4)))]) hx hb d_Procedures_moveAll_1 rfl hl (by decide) rfl (fun ls hl => ?_)
  exact lb_Procedures_moveAll_2 l dC dI cI adK adV adA u n hx hb hml hown hts hK hE hA hr hlocks n _ _ _ _ _ hm o 0 0 hkc hks _ _ _ hP hD hS (lv_sub hl [1, 0] rfl)

def m_Heap_moveMembers_b19 (n : Nat) : Nat → (Nat → Int32) → (Nat → Nat → Int32) → (Nat → Nat) → Int32 → Int32 → Option ((Nat → Int32) × (Nat → Nat → Int32) × (Nat → Nat) × (Nat × Nat) × Int32)
  | 0, _, _, _, _, _ => none
  | f + 1, i, a, g, v2, v3 => if v2 ≤ v3 then some (i, a, g, (0, 0), v2) else if ((nI (g 1))) ≤ v3 then some (i, a, g, (0, 0), v2) else ck v3 (g 1) (obG (m_Heap_moved n g i a (a 1 v3.toNatClampNeg)) (fun i_5 a_6 g_7 r_9 => ck v3 (g_7 1) (ob1 (sv a_6 1 v3.toNatClampNeg r_9 : Nat → Nat → Int32) (fun a_15 => ob1 (v3 + 1 : Int32) (fun x_16 => m_Heap_moveMembers_b19 n f i_5 a_15 g_7 v2 x_16)))))
set_option maxHeartbeats 4000000 in
set_option maxRecDepth 100000 in
theorem lb_Heap_moveMembers_19 (l : Launch) (dC : Nat → ClassId) (dI : Nat → Nat → Nat) (cI : ClassId) (adK adV adA u : Nat → Nat) (n : Nat) {p : Program} {e : Env} {s : State} {m : MethodId} {args : Array Value} {below : List Frame} {meth : Method} {c : Code} {A : Nat → Prop} (hx : p.tables.exec = Jvm.exec) (hb : c.code = b_Heap_moveMembers) (hml : c.maxLocals = 5) (hown : s.vm.findClass R_Heap = some m.cls) (hts : ∀ w ∈ w_Heap_moveMembers, w.before args s = true) (hK : va_K (dC, dI) classes [(cI, .int)] s) (hE : tw_E adK adV adA A s s.heap) (hA : ∀ q : Nat, s.heap.size ≤ q → A q) (hr : meth.sig.returnType = (some .int)) (hlocks : meth.locks = false) {mc ms : Nat} {i2 : Nat → Int32} {a2 : Nat → Nat → Int32} {g2 : Nat → Nat} {r2 : Int32} : ∀ (f : Nat) (i : Nat → Int32) (a : Nat → Nat → Int32) (g : Nat → Nat) (v2 : Int32) (v3 : Int32) (k2 : Nat × Nat), m_Heap_moveMembers_b19 n f i a g v2 v3 = some (i2, a2, g2, k2, r2) → ∀ (o : Nat → Nat) (kc ks : Nat), kc + k2.1 = mc → ks + k2.2 = ms → ∀ (H : Heap) (locs : List Loc) (ls : Array Slot), va_P (dC, dI) classes (TW cI u o i a g) H → va_D A (TW cI u o i a g) → va_S A s.heap H locs → lv_has ls 5 [(0, .ref ((u 1))), (2, .int v2), (3, .int v3)] → W p l e ({ frames := 5, cells := mc, slots := ms, locals := 130 } : Room) s m args below meth c H locs kc ks (MQ below (va_Qi (xRg r2) (xBg dC dI cI u g2 i2 a2 A) A) args s mc ms A) (F0 m 19 ls []) := by
  have htt : ∀ w ∈ tw_T, w.before _ s = true := fun w h => hts w (List.mem_cons_of_mem _ h)
  intro f
  induction f with
  | zero =>
    intro i a g v2 v3 k2 hm
    rw [m_Heap_moveMembers_b19] at hm
    cases hm
  | succ f ih =>
    intro i a g v2 v3 k2 hm o kc ks hkc hks H locs ls hP hD hS hl
    rw [m_Heap_moveMembers_b19] at hm
    refine lv_iload_n hx hb d_Heap_moveMembers_19 rfl (lv_at hl 2 rfl) ?_
    refine lv_iload_n hx hb d_Heap_moveMembers_20 rfl (lv_at hl 1 rfl) ?_
    refine lv_icmp_ge (tgt := 59) hx hb d_Heap_moveMembers_21 (by decide) (fun c_1 => ?_) (fun c_1 => ?_)
    · replace hm := if_t c_1 hm
      refine lv_iload_n hx hb d_Heap_moveMembers_59 rfl (lv_at hl 1 rfl) ?_
      obtain ⟨e1, e2, e4, e5, e6, e3⟩ := re5 hm
      obtain ⟨hP, hD⟩ := x_eqg e1 e2 e4 hP hD
      refine W.widen (k := mc) (n := ms) (show kc ≤ mc by omega) (show ks ≤ ms by omega) ?_
      exact W.iret hx hb hr (fun t9 ht hW => ⟨⟨_, o, rfl, e3.symm, by rw [ht]; exact hP, hD⟩, hS.F ht⟩) hS.2.2 d_Heap_moveMembers_60
    · replace hm := if_f c_1 hm
      refine lv_iload_n hx hb d_Heap_moveMembers_24 rfl (lv_at hl 2 rfl) ?_
      refine lv_aload_n hx hb d_Heap_moveMembers_25 rfl (lv_at hl 0 rfl) ?_
      refine va_get (D := (dC, dI)) (ci := 1) (v := .ref ((o 1))) (C := R_Heap) (T := F_Heap) (N := 12) hx hb htt iw_Heap hown hK hP 1 xo_1 rfl 6 (Nat.le_of_ble_eq_true rfl) (htt _ lk_Heap_15) (fun _ h9 => h9) xg_1_6 d_Heap_moveMembers_26 ?_
      refine va_alen (v := nI (g 1)) hx hb hK hP 13 0 twA_1 rfl rfl d_Heap_moveMembers_29 ?_
      refine lv_icmp_ge (tgt := 59) hx hb d_Heap_moveMembers_30 (by decide) (fun c_2 => ?_) (fun c_2 => ?_)
      · replace hm := if_t c_2 hm
        refine lv_iload_n hx hb d_Heap_moveMembers_59 rfl (lv_at hl 1 rfl) ?_
        obtain ⟨e1, e2, e4, e5, e6, e3⟩ := re5 hm
        obtain ⟨hP, hD⟩ := x_eqg e1 e2 e4 hP hD
        refine W.widen (k := mc) (n := ms) (show kc ≤ mc by omega) (show ks ≤ ms by omega) ?_
        exact W.iret hx hb hr (fun t9 ht hW => ⟨⟨_, o, rfl, e3.symm, by rw [ht]; exact hP, hD⟩, hS.F ht⟩) hS.2.2 d_Heap_moveMembers_60
      · replace hm := if_f c_2 hm
        refine lv_aload_n hx hb d_Heap_moveMembers_33 rfl (lv_at hl 0 rfl) ?_
        refine lv_aload_n hx hb d_Heap_moveMembers_34 rfl (lv_at hl 0 rfl) ?_
        refine va_get (D := (dC, dI)) (ci := 1) (v := .ref ((o 1))) (C := R_Heap) (T := F_Heap) (N := 12) hx hb htt iw_Heap hown hK hP 1 xo_1 rfl 6 (Nat.le_of_ble_eq_true rfl) (htt _ lk_Heap_15) (fun _ h9 => h9) xg_1_6 d_Heap_moveMembers_35 ?_
        refine lv_iload_n hx hb d_Heap_moveMembers_38 rfl (lv_at hl 2 rfl) ?_
        obtain ⟨h_3, hm⟩ := ck_some hm
        refine va_iald hx hb hK hP 13 0 twA_1 rfl h_3 d_Heap_moveMembers_39 ?_
        obtain ⟨i_5, a_6, g_7, k_8, r_9, k_10, h_4, hm, e7, e8⟩ := obG_some hm
        have hFc := x_free hD hS hA
        refine xg_calli (va_runV (As := [.int (a 1 v3.toNatClampNeg)]) (rest := []) ⟨hx, hb, hml, hown, hts⟩ (x_Heap_moved l dC dI cI adK adV adA u o g H.size n h_4) (cwV 1 hts (tw_GV tw_cons cw_Heap_moved lk_Heap_174 in_Heap_moved sel_Heap_moved ini_Heap) rfl rfl rfl ⟨rfl, hd_Heap_moved⟩ ⟨Nat.le_of_ble_eq_true rfl, Nat.le_of_ble_eq_true rfl⟩) (xpV hK hP hD hS hE hFc xo_1 rfl) rfl rfl hl.1 rfl (lv_room (Nat.le_of_ble_eq_true rfl)) d_Heap_moveMembers_40 ⟨show kc + k_8.1 ≤ mc by omega, show ks + k_8.2 ≤ ms by omega⟩) hS (fun q _ h => hFc q h) hFc (fun kc_12 ks_13 r9 o_11 t9 H locs ekc eks ht hvm e9 hB hz1 hk1 hS => ?_)
        replace hkc : kc_12 + k_10.1 = mc := by omega
        replace hks : ks_13 + k_10.2 = ms := by omega
        clear e7 e8
        clear ekc eks
        have e9 : r_9 = r9 := e9
        subst e9
        obtain ⟨hP, hD⟩ := x_aftg hB ht hFc
        clear hFc hk1 hz1 hvm hB ht
        refine lv_istore (lv' := [(4, .int r_9), (0, .ref ((u 1))), (2, .int v2), (3, .int v3)]) hx hb d_Heap_moveMembers_43 hl (by decide) rfl (fun ls hl => ?_)
        refine lv_aload_n hx hb d_Heap_moveMembers_45 rfl (lv_at hl 1 rfl) ?_
        refine va_get (D := (dC, dI)) (ci := 1) (v := .ref ((o_11 1))) (C := R_Heap) (T := F_Heap) (N := 12) hx hb htt iw_Heap hown hK hP 1 xo_1 rfl 6 (Nat.le_of_ble_eq_true rfl) (htt _ lk_Heap_15) (fun _ h9 => h9) xg_1_6 d_Heap_moveMembers_46 ?_
        refine lv_iload_n hx hb d_Heap_moveMembers_49 rfl (lv_at hl 3 rfl) ?_
        refine lv_iload hx hb d_Heap_moveMembers_50 (lv_at hl 0 rfl) ?_
        obtain ⟨h_14, hm⟩ := ck_some hm
        refine va_iast hx hb hK hP hD hS 13 0 twA_1 rfl h_14 d_Heap_moveMembers_52 (fun H locs hP hD hS => ?_)
        obtain ⟨a_15, ea_15⟩ : ∃ y9 : Nat → Nat → Int32, y9 = sv a_6 1 v3.toNatClampNeg r_9 := ⟨_, rfl⟩
        replace hm := ob1_at ea_15 hm
        obtain ⟨hP, hD⟩ := xv_1 ea_15 hP hD
        obtain ⟨x_16, ex_16⟩ : ∃ y9 : Int32, y9 = v3 + 1 := ⟨_, rfl⟩
        replace hm := ob1_at ex_16 hm
        refine lv_iinc (v := x_16) (lv' := [(3, .int x_16), (4, .int r_9), (0, .ref ((u 1))), (2, .int v2)]) hx hb d_Heap_moveMembers_53 hl (k := 3) rfl (by rw [ex_16]; rfl) (by decide) rfl (fun ls hl => ?_)
        refine lv_goto (tgt := 19) hx hb d_Heap_moveMembers_56 (by decide) ?_
        exact ih _ _ _ _ _ _ hm o_11 kc_12 ks_13 hkc hks _ _ _ hP hD hS (lv_sub hl [2, 3, 0] rfl)
def m_Heap_moveMembers (n : Nat) (g : Nat → Nat) (i : Nat → Int32) (a : Nat → Nat → Int32) (v1 : Int32) : Option ((Nat → Int32) × (Nat → Nat → Int32) × (Nat → Nat) × (Nat × Nat) × Int32) := ck v1 (g 1) (ob1 ((v1 + 1) + ((a 1 v1.toNatClampNeg) &&& 8191) : Int32) (fun x_2 => ob1 (v1 + 1 : Int32) (fun x_3 => m_Heap_moveMembers_b19 n n i a g x_2 x_3)))
set_option maxHeartbeats 4000000 in
set_option maxRecDepth 100000 in
theorem x_Heap_moveMembers (l : Launch) (dC : Nat → ClassId) (dI : Nat → Nat → Nat) (cI : ClassId) (adK adV adA u o g : Nat → Nat) (sz : Nat) (n : Nat) {i : Nat → Int32} {a : Nat → Nat → Int32} {v1 : Int32} {i2 : Nat → Int32} {a2 : Nat → Nat → Int32} {g2 : Nat → Nat} {k2 : Nat × Nat} {r2 : Int32} (hm : m_Heap_moveMembers n g i a v1 = some (i2, a2, g2, k2, r2)) : Met l y_Heap_moveMembers w_Heap_moveMembers ({ frames := 5, cells := k2.1, slots := k2.2, locals := 130 } : Room) (va_Pc [.ref ((u 1)), .int v1] (xE dC dI cI adK adV adA u o g i a sz)) (va_Qi (xRg r2) (xBg dC dI cI u g2 i2 a2 (va_A (TW cI u o i a g) sz)) (va_A (TW cI u o i a g) sz)) k2.1 k2.2 ((va_A (TW cI u o i a g) sz)) := by
  refine Met.ofW (cc := b_Heap_moveMembers) (maxL := 5) (ret := (some .int)) (by decide) rfl ?_
  intro p e s m args below meth c s₁ B hml hv
  obtain ⟨rfl, hsz, hP, hK, hE, hD0⟩ := hv
  have hx := B.exec
  have hb := B.bytes
  have hr := B.returns
  have hts := atoms_spec (ws := w_Heap_moveMembers) B.pre
  have htt : ∀ w ∈ tw_T, w.before _ s = true := fun w h => hts w (List.mem_cons_of_mem _ h)
  have hown : s.vm.findClass R_Heap = some m.cls := findClass_of_methodNamed B.named
  have hlocks := B.notSynchronized
  subst hsz
  have hD := hD0.self (sz := s.heap.size)
  generalize hAe : (va_A (TW cI u o i a g) s.heap.size) = A at hD hE ⊢
  have hA : ∀ q : Nat, s.heap.size ≤ q → A q := fun q h => by rw [← hAe]; exact Or.inr h
  have hS : va_S A s.heap s.heap [] := va_S.rf
  obtain ⟨mc, ms, emc, ems⟩ : ∃ mc ms : Nat, k2.1 = mc ∧ k2.2 = ms := ⟨_, _, rfl, rfl⟩
  have hkc : 0 + k2.1 = mc := by rw [Nat.zero_add]; exact emc
  have hks : 0 + k2.2 = ms := by rw [Nat.zero_add]; exact ems
  rw [emc, ems]
  clear emc ems
  have hl := lv_entry ([.ref ((u 1)), .int v1]) (n := 5) (Nat.le_of_ble_eq_true rfl)
  rw [lg_entry_eq]
  generalize (lg_sl ([.ref ((u 1)), .int v1]) ++ List.replicate (5 - (lg_sl ([.ref ((u 1)), .int v1])).length) Slot.unset).toArray = ls at hl ⊢
  have hl : lv_has ls 5 [(0, .ref ((u 1))), (1, .int v1)] := hl
  rw [m_Heap_moveMembers] at hm
  refine lv_iload_n hx hb d_Heap_moveMembers_0 rfl (lv_at hl 1 rfl) ?_
  refine lv_iconst (v := 1) hx hb d_Heap_moveMembers_1 (by decide) ?_
  refine lv_iadd hx hb d_Heap_moveMembers_2 ?_
  refine lv_aload_n hx hb d_Heap_moveMembers_3 rfl (lv_at hl 0 rfl) ?_
  refine va_get (D := (dC, dI)) (ci := 1) (v := .ref ((o 1))) (C := R_Heap) (T := F_Heap) (N := 12) hx hb htt iw_Heap hown hK hP 1 xo_1 rfl 6 (Nat.le_of_ble_eq_true rfl) (htt _ lk_Heap_15) (fun _ h9 => h9) xg_1_6 d_Heap_moveMembers_4 ?_
  refine lv_iload_n hx hb d_Heap_moveMembers_7 rfl (lv_at hl 1 rfl) ?_
  obtain ⟨h_1, hm⟩ := ck_some hm
  refine va_iald hx hb hK hP 13 0 twA_1 rfl h_1 d_Heap_moveMembers_8 ?_
  refine lv_sipush (v := 8191) hx hb d_Heap_moveMembers_9 (by decide) ?_
  refine lv_iand hx hb d_Heap_moveMembers_12 ?_
  refine lv_iadd hx hb d_Heap_moveMembers_13 ?_
  refine lv_topi (fun x_2 ex_2 => ?_)
  replace hm := ob1_at ex_2 hm
  refine lv_istore_n (lv' := [(2, .int x_2), (0, .ref ((u 1))), (1, .int v1)]) hx hb d_Heap_moveMembers_14 rfl hl (by decide) rfl (fun ls hl => ?_)
  refine lv_iload_n hx hb d_Heap_moveMembers_15 rfl (lv_at hl 2 rfl) ?_
  refine lv_iconst (v := 1) hx hb d_Heap_moveMembers_16 (by decide) ?_
  refine lv_iadd hx hb d_Heap_moveMembers_17 ?_
  refine lv_topi (fun x_3 ex_3 => ?_)
  replace hm := ob1_at ex_3 hm
  refine lv_istore_n (lv' := [(3, .int x_3), (2, .int x_2), (0, .ref ((u 1))), (1, .int v1)]) hx hb d_Heap_moveMembers_18 rfl hl (by decide) rfl (fun ls hl => ?_)
  exact lb_Heap_moveMembers_19 l dC dI cI adK adV adA u n hx hb hml hown hts hK hE hA hr hlocks n _ _ _ _ _ _ hm o 0 0 hkc hks _ _ _ hP hD hS (lv_sub hl [2, 1, 0] rfl)

def m_Machine_meet (n : Nat) (g : Nat → Nat) (i : Nat → Int32) (a : Nat → Nat → Int32)  : Option ((Nat → Int32) × (Nat → Nat → Int32) × Int32) := ob1 ((i 40) - 1 : Int32) (fun x_1 => if ((0 : Int32)) ≤ x_1 then ck x_1 150 (ck x_1 150 (ob0 (m_Heap_member n g i a (a 38 x_1.toNatClampNeg) (a 39 x_1.toNatClampNeg)) (fun r_6 => if r_6 = ((-2147483648 : Int32)) then ck x_1 150 (if ((i 42)) = ((a 44 x_1.toNatClampNeg)) then ob (m_Machine_finishGiving n g i a (-2147483648 : Int32)) (fun i_21 a_22 r_23 => some (i_21, a_22, r_23)) else some (i, a, (-2147483644))) else ck x_1 150 (ck x_1 150 (ob1 (sv a 39 x_1.toNatClampNeg ((a 39 x_1.toNatClampNeg) + 1) : Nat → Nat → Int32) (fun a_10 => ob0 (m_Heap_isWord n r_6) (fun r_12 => if r_12 = ((0 : Int32)) then some (i, a_10, r_6) else ob (m_Machine_meetWord n g i a_10 r_6) (fun i_15 a_16 r_17 => some (i_15, a_16, r_17))))))))) else some (i, a, (-2147483644)))
set_option maxHeartbeats 4000000 in
set_option maxRecDepth 100000 in
theorem x_Machine_meet (l : Launch) (dC : Nat → ClassId) (dI : Nat → Nat → Nat) (cI : ClassId) (adK adV adA u o g : Nat → Nat) (sz : Nat) (n : Nat) {i : Nat → Int32} {a : Nat → Nat → Int32}  {i2 : Nat → Int32} {a2 : Nat → Nat → Int32} {r2 : Int32} (hm : m_Machine_meet n g i a = some (i2, a2, r2)) : Met l y_Machine_meet w_Machine_meet ({ frames := 5, cells := 0, slots := 0, locals := 115 } : Room) (va_Pc [.ref ((u 11))] (xE dC dI cI adK adV adA u o g i a sz)) (va_Qi (xR r2) (xB dC dI cI u o g i2 a2 (va_A (TW cI u o i a g) sz)) (va_A (TW cI u o i a g) sz)) 0 0 ((va_A (TW cI u o i a g) sz)) := by
  refine Met.ofW (cc := b_Machine_meet) (maxL := 3) (ret := (some .int)) (by decide) rfl ?_
  intro p e s m args below meth c s₁ B hml hv
  obtain ⟨rfl, hsz, hP, hK, hE, hD0⟩ := hv
  have hx := B.exec
  have hb := B.bytes
  have hr := B.returns
  have hts := atoms_spec (ws := w_Machine_meet) B.pre
  have htt : ∀ w ∈ tw_T, w.before _ s = true := fun w h => hts w (List.mem_cons_of_mem _ h)
  have hown : s.vm.findClass R_Machine = some m.cls := findClass_of_methodNamed B.named
  have hlocks := B.notSynchronized
  subst hsz
  have hD := hD0.self (sz := s.heap.size)
  generalize hAe : (va_A (TW cI u o i a g) s.heap.size) = A at hD hE ⊢
  have hA : ∀ q : Nat, s.heap.size ≤ q → A q := fun q h => by rw [← hAe]; exact Or.inr h
  have hS : va_S A s.heap s.heap [] := va_S.rf
  have hl := lv_entry ([.ref ((u 11))]) (n := 3) (Nat.le_of_ble_eq_true rfl)
  rw [lg_entry_eq]
  generalize (lg_sl ([.ref ((u 11))]) ++ List.replicate (3 - (lg_sl ([.ref ((u 11))])).length) Slot.unset).toArray = ls at hl ⊢
  have hl : lv_has ls 3 [(0, .ref ((u 11)))] := hl
  rw [m_Machine_meet] at hm
  refine lv_aload_n hx hb d_Machine_meet_0 rfl (lv_at hl 0 rfl) ?_
  refine va_get (D := (dC, dI)) (ci := 11) (v := .ref ((u 8))) (C := R_Machine) (T := F_Machine) (N := 9) hx hb htt iw_Machine hown hK hP 11 xo_11 rfl 1 (Nat.le_of_ble_eq_true rfl) (htt _ lk_Machine_18) (fun _ h9 => h9) xg_11_1 d_Machine_meet_1 ?_
  refine va_get (D := (dC, dI)) (ci := 8) (v := .int (i 40)) (C := R_Line) (T := F_Line) (N := 18) hx hb htt iw_Line hown hK hP 8 xo_8 rfl 6 (Nat.le_of_ble_eq_true rfl) (htt _ lk_Machine_130) (fun _ h9 => h9) xg_8_6 d_Machine_meet_4 ?_
  refine lv_iconst (v := 1) hx hb d_Machine_meet_7 (by decide) ?_
  refine lv_isub hx hb d_Machine_meet_8 ?_
  refine lv_topi (fun x_1 ex_1 => ?_)
  replace hm := ob1_at ex_1 hm
  refine lv_istore_n (lv' := [(1, .int x_1), (0, .ref ((u 11)))]) hx hb d_Machine_meet_9 rfl hl (by decide) rfl (fun ls hl => ?_)
  refine lv_iload_n hx hb d_Machine_meet_10 rfl (lv_at hl 0 rfl) ?_
  refine lv_if_ge (tgt := 17) hx hb d_Machine_meet_11 (by decide) (fun c_2 => ?_) (fun c_2 => ?_)
  · replace hm := if_t c_2 hm
    refine lv_aload_n hx hb d_Machine_meet_17 rfl (lv_at hl 1 rfl) ?_
    refine va_get (D := (dC, dI)) (ci := 11) (v := .ref ((u 1))) (C := R_Machine) (T := F_Machine) (N := 9) hx hb htt iw_Machine hown hK hP 11 xo_11 rfl 0 (Nat.le_of_ble_eq_true rfl) (htt _ lk_Machine_15) (fun _ h9 => h9) xg_11_0 d_Machine_meet_18 ?_
    refine lv_aload_n hx hb d_Machine_meet_21 rfl (lv_at hl 1 rfl) ?_
    refine va_get (D := (dC, dI)) (ci := 11) (v := .ref ((u 8))) (C := R_Machine) (T := F_Machine) (N := 9) hx hb htt iw_Machine hown hK hP 11 xo_11 rfl 1 (Nat.le_of_ble_eq_true rfl) (htt _ lk_Machine_18) (fun _ h9 => h9) xg_11_1 d_Machine_meet_22 ?_
    refine va_get (D := (dC, dI)) (ci := 8) (v := .ref ((u 48))) (C := R_Line) (T := F_Line) (N := 18) hx hb htt iw_Line hown hK hP 8 xo_8 rfl 9 (Nat.le_of_ble_eq_true rfl) (htt _ lk_Machine_161) (fun _ h9 => h9) xg_8_9 d_Machine_meet_25 ?_
    refine lv_iload_n hx hb d_Machine_meet_28 rfl (lv_at hl 0 rfl) ?_
    obtain ⟨h_3, hm⟩ := ck_some hm
    refine va_iald hx hb hK hP 50 0 twA_38 rfl h_3 d_Machine_meet_29 ?_
    refine lv_aload_n hx hb d_Machine_meet_30 rfl (lv_at hl 1 rfl) ?_
    refine va_get (D := (dC, dI)) (ci := 11) (v := .ref ((u 8))) (C := R_Machine) (T := F_Machine) (N := 9) hx hb htt iw_Machine hown hK hP 11 xo_11 rfl 1 (Nat.le_of_ble_eq_true rfl) (htt _ lk_Machine_18) (fun _ h9 => h9) xg_11_1 d_Machine_meet_31 ?_
    refine va_get (D := (dC, dI)) (ci := 8) (v := .ref ((u 49))) (C := R_Line) (T := F_Line) (N := 18) hx hb htt iw_Line hown hK hP 8 xo_8 rfl 10 (Nat.le_of_ble_eq_true rfl) (htt _ lk_Machine_164) (fun _ h9 => h9) xg_8_10 d_Machine_meet_34 ?_
    refine lv_iload_n hx hb d_Machine_meet_37 rfl (lv_at hl 0 rfl) ?_
    obtain ⟨h_4, hm⟩ := ck_some hm
    refine va_iald hx hb hK hP 51 0 twA_39 rfl h_4 d_Machine_meet_38 ?_
    obtain ⟨r_6, h_5, hm⟩ := ob0_some hm
    have hFc := x_free0 hS hA
    refine va_calli (va_runV (As := [.int (a 38 x_1.toNatClampNeg), .int (a 39 x_1.toNatClampNeg)]) (rest := []) ⟨hx, hb, hml, hown, hts⟩ (x_Heap_member l dC dI cI adK adV adA u o g s.heap.size n h_5) (cwV 2 hts (tw_GV tw_cons cw_Heap_member lk_Machine_167 in_Heap_member sel_Heap_member ini_Heap) rfl rfl rfl ⟨rfl, hd_Heap_member⟩ ⟨Nat.le_of_ble_eq_true rfl, Nat.le_of_ble_eq_true rfl⟩) (xpVr hK hP hS hE hFc xo_1 rfl) rfl rfl hl.1 rfl (lv_room (Nat.le_of_ble_eq_true rfl)) d_Machine_meet_39 ⟨Nat.le_of_ble_eq_true rfl, Nat.le_of_ble_eq_true rfl⟩) hS (fun q _ h => hFc q h) hFc (fun r9 u9 t9 H locs ht hvm e9 hB hz1 hk1 hS => ?_)
    have e9 : r_6 = r9 := e9
    subst e9
    replace hP := x_keep hP hk1
    clear hFc hk1 hz1 hvm hB ht
    refine lv_istore_n (lv' := [(2, .int r_6), (1, .int x_1), (0, .ref ((u 11)))]) hx hb d_Machine_meet_42 rfl hl (by decide) rfl (fun ls hl => ?_)
    refine lv_iload_n hx hb d_Machine_meet_43 rfl (lv_at hl 0 rfl) ?_
    refine lv_ldc (v := (-2147483648)) hx hb hown (htt _ lk_Machine_114) d_Machine_meet_44 ?_
    refine lv_icmp_ne (tgt := 80) hx hb d_Machine_meet_46 (by decide) (fun c_7 => ?_) (fun c_7 => ?_)
    · replace hm := if_f c_7 hm
      refine lv_aload_n hx hb d_Machine_meet_80 rfl (lv_at hl 2 rfl) ?_
      refine va_get (D := (dC, dI)) (ci := 11) (v := .ref ((u 8))) (C := R_Machine) (T := F_Machine) (N := 9) hx hb htt iw_Machine hown hK hP 11 xo_11 rfl 1 (Nat.le_of_ble_eq_true rfl) (htt _ lk_Machine_18) (fun _ h9 => h9) xg_11_1 d_Machine_meet_81 ?_
      refine va_get (D := (dC, dI)) (ci := 8) (v := .ref ((u 49))) (C := R_Line) (T := F_Line) (N := 18) hx hb htt iw_Line hown hK hP 8 xo_8 rfl 10 (Nat.le_of_ble_eq_true rfl) (htt _ lk_Machine_164) (fun _ h9 => h9) xg_8_10 d_Machine_meet_84 ?_
      refine lv_iload_n hx hb d_Machine_meet_87 rfl (lv_at hl 1 rfl) ?_
      refine lv_dup2_11 hx hb d_Machine_meet_88 rfl rfl ?_
      obtain ⟨h_8, hm⟩ := ck_some hm
      refine va_iald hx hb hK hP 51 0 twA_39 rfl h_8 d_Machine_meet_89 ?_
      refine lv_iconst (v := 1) hx hb d_Machine_meet_90 (by decide) ?_
      refine lv_iadd hx hb d_Machine_meet_91 ?_
      obtain ⟨h_9, hm⟩ := ck_some hm
      refine va_iast hx hb hK hP hD hS 51 0 twA_39 rfl h_9 d_Machine_meet_92 (fun H locs hP hD hS => ?_)
      obtain ⟨a_10, ea_10⟩ : ∃ y9 : Nat → Nat → Int32, y9 = sv a 39 x_1.toNatClampNeg ((a 39 x_1.toNatClampNeg) + 1) := ⟨_, rfl⟩
      replace hm := ob1_at ea_10 hm
      obtain ⟨hP, hD⟩ := xv_39 ea_10 hP hD
      refine lv_iload_n hx hb d_Machine_meet_93 rfl (lv_at hl 0 rfl) ?_
      obtain ⟨r_12, h_11, hm⟩ := ob0_some hm
      have hFc := x_free0 hS hA
      refine va_calli (va_runS (As := [.int r_6]) (rest := []) ⟨hx, hb, hml, hown, hts⟩ (x_Heap_isWord l H.size n h_11) (va_cwS 1 hts (tw_GS tw_cons cw_Heap_isWord lk_Machine_173 st_Heap_isWord ini_Heap) rfl rfl rfl hd_Heap_isWord ⟨Nat.le_of_ble_eq_true rfl, Nat.le_of_ble_eq_true rfl⟩) xpS0 rfl rfl hl.1 rfl (lv_room (Nat.le_of_ble_eq_true rfl)) d_Machine_meet_94 ⟨Nat.le_of_ble_eq_true rfl, Nat.le_of_ble_eq_true rfl⟩) hS (fun q _ h => hFc q h) hFc (fun r9 u9 t9 H locs ht hvm e9 hB hz1 hk1 hS => ?_)
      have e9 : r_12 = r9 := e9
      subst e9
      replace hP := x_keep hP hk1
      clear hFc hk1 hz1 hvm hB ht
      refine lv_if_eq (tgt := 108) hx hb d_Machine_meet_97 (by decide) (fun c_13 => ?_) (fun c_13 => ?_)
      · replace hm := if_t c_13 hm
        refine lv_iload_n hx hb d_Machine_meet_108 rfl (lv_at hl 0 rfl) ?_
        obtain ⟨e1i, e1a, e3⟩ := re3 hm
        obtain ⟨hP, hD⟩ := x_eq e1i e1a hP hD
        exact W.iret hx hb hr (fun t9 ht hW => ⟨⟨_, (), rfl, e3.symm, by rw [ht]; exact hP, hD⟩, hS.F ht⟩) hS.2.2 d_Machine_meet_109
      · replace hm := if_f c_13 hm
        refine lv_aload_n hx hb d_Machine_meet_100 rfl (lv_at hl 2 rfl) ?_
        refine lv_iload_n hx hb d_Machine_meet_101 rfl (lv_at hl 0 rfl) ?_
        obtain ⟨i_15, a_16, r_17, h_14, hm⟩ := ob_some hm
        have hFc := x_free hD hS hA
        refine va_calli (va_runV (As := [.int r_6]) (rest := []) ⟨hx, hb, hml, hown, hts⟩ (x_Machine_meetWord l dC dI cI adK adV adA u o g H.size n h_14) (cwV 1 hts (tw_GV tw_cons cw_Machine_meetWord lk_Machine_177 in_Machine_meetWord sel_Machine_meetWord ini_Machine) rfl rfl rfl ⟨rfl, hd_Machine_meetWord⟩ ⟨Nat.le_of_ble_eq_true rfl, Nat.le_of_ble_eq_true rfl⟩) (xpV hK hP hD hS hE hFc xo_11 rfl) rfl rfl hl.1 rfl (lv_room (Nat.le_of_ble_eq_true rfl)) d_Machine_meet_102 ⟨Nat.le_of_ble_eq_true rfl, Nat.le_of_ble_eq_true rfl⟩) hS (fun q _ h => hFc q h) hFc (fun r9 u9 t9 H locs ht hvm e9 hB hz1 hk1 hS => ?_)
        have e9 : r_17 = r9 := e9
        subst e9
        obtain ⟨hP, hD⟩ := x_aft hB ht hFc
        clear hFc hk1 hz1 hvm hB ht
        refine lv_goto (tgt := 109) hx hb d_Machine_meet_105 (by decide) ?_
        obtain ⟨e1i, e1a, e3⟩ := re3 hm
        obtain ⟨hP, hD⟩ := x_eq e1i e1a hP hD
        exact W.iret hx hb hr (fun t9 ht hW => ⟨⟨_, (), rfl, e3.symm, by rw [ht]; exact hP, hD⟩, hS.F ht⟩) hS.2.2 d_Machine_meet_109
    · replace hm := if_t c_7 hm
      refine lv_aload_n hx hb d_Machine_meet_49 rfl (lv_at hl 2 rfl) ?_
      refine va_get (D := (dC, dI)) (ci := 11) (v := .ref ((u 9))) (C := R_Machine) (T := F_Machine) (N := 9) hx hb htt iw_Machine hown hK hP 11 xo_11 rfl 2 (Nat.le_of_ble_eq_true rfl) (htt _ lk_Machine_22) (fun _ h9 => h9) xg_11_2 d_Machine_meet_50 ?_
      refine va_get (D := (dC, dI)) (ci := 9) (v := .int (i 42)) (C := R_Waiting) (T := F_Waiting) (N := 11) hx hb htt iw_Waiting hown hK hP 9 xo_9 rfl 7 (Nat.le_of_ble_eq_true rfl) (htt _ lk_Machine_42) (fun _ h9 => h9) xg_9_7 d_Machine_meet_53 ?_
      refine lv_aload_n hx hb d_Machine_meet_56 rfl (lv_at hl 2 rfl) ?_
      refine va_get (D := (dC, dI)) (ci := 11) (v := .ref ((u 8))) (C := R_Machine) (T := F_Machine) (N := 9) hx hb htt iw_Machine hown hK hP 11 xo_11 rfl 1 (Nat.le_of_ble_eq_true rfl) (htt _ lk_Machine_18) (fun _ h9 => h9) xg_11_1 d_Machine_meet_57 ?_
      refine va_get (D := (dC, dI)) (ci := 8) (v := .ref ((u 54))) (C := R_Line) (T := F_Line) (N := 18) hx hb htt iw_Line hown hK hP 8 xo_8 rfl 15 (Nat.le_of_ble_eq_true rfl) (htt _ lk_Machine_151) (fun _ h9 => h9) xg_8_15 d_Machine_meet_60 ?_
      refine lv_iload_n hx hb d_Machine_meet_63 rfl (lv_at hl 1 rfl) ?_
      obtain ⟨h_18, hm⟩ := ck_some hm
      refine va_iald hx hb hK hP 56 0 twA_44 rfl h_18 d_Machine_meet_64 ?_
      refine lv_icmp_ne (tgt := 77) hx hb d_Machine_meet_65 (by decide) (fun c_19 => ?_) (fun c_19 => ?_)
      · replace hm := if_f c_19 hm
        refine lv_ldc (v := (-2147483644)) hx hb hown (htt _ lk_Machine_160) d_Machine_meet_77 ?_
        obtain ⟨e1i, e1a, e3⟩ := re3 hm
        obtain ⟨hP, hD⟩ := x_eq e1i e1a hP hD
        exact W.iret hx hb hr (fun t9 ht hW => ⟨⟨_, (), rfl, e3.symm, by rw [ht]; exact hP, hD⟩, hS.F ht⟩) hS.2.2 d_Machine_meet_79
      · replace hm := if_t c_19 hm
        refine lv_aload_n hx hb d_Machine_meet_68 rfl (lv_at hl 2 rfl) ?_
        refine lv_ldc (v := (-2147483648)) hx hb hown (htt _ lk_Machine_114) d_Machine_meet_69 ?_
        obtain ⟨i_21, a_22, r_23, h_20, hm⟩ := ob_some hm
        have hFc := x_free hD hS hA
        refine va_calli (va_runV (As := [.int ((-2147483648))]) (rest := []) ⟨hx, hb, hml, hown, hts⟩ (x_Machine_finishGiving l dC dI cI adK adV adA u o g H.size n h_20) (cwV 1 hts (tw_GV tw_cons cw_Machine_finishGiving lk_Machine_170 in_Machine_finishGiving sel_Machine_finishGiving ini_Machine) rfl rfl rfl ⟨rfl, hd_Machine_finishGiving⟩ ⟨Nat.le_of_ble_eq_true rfl, Nat.le_of_ble_eq_true rfl⟩) (xpV hK hP hD hS hE hFc xo_11 rfl) rfl rfl hl.1 rfl (lv_room (Nat.le_of_ble_eq_true rfl)) d_Machine_meet_71 ⟨Nat.le_of_ble_eq_true rfl, Nat.le_of_ble_eq_true rfl⟩) hS (fun q _ h => hFc q h) hFc (fun r9 u9 t9 H locs ht hvm e9 hB hz1 hk1 hS => ?_)
        have e9 : r_23 = r9 := e9
        subst e9
        obtain ⟨hP, hD⟩ := x_aft hB ht hFc
        clear hFc hk1 hz1 hvm hB ht
        refine lv_goto (tgt := 79) hx hb d_Machine_meet_74 (by decide) ?_
        obtain ⟨e1i, e1a, e3⟩ := re3 hm
        obtain ⟨hP, hD⟩ := x_eq e1i e1a hP hD
        exact W.iret hx hb hr (fun t9 ht hW => ⟨⟨_, (), rfl, e3.symm, by rw [ht]; exact hP, hD⟩, hS.F ht⟩) hS.2.2 d_Machine_meet_79
  · replace hm := if_f c_2 hm
    refine lv_ldc (v := (-2147483644)) hx hb hown (htt _ lk_Machine_160) d_Machine_meet_14 ?_
    obtain ⟨e1i, e1a, e3⟩ := re3 hm
    obtain ⟨hP, hD⟩ := x_eq e1i e1a hP hD
    exact W.iret hx hb hr (fun t9 ht hW => ⟨⟨_, (), rfl, e3.symm, by rw [ht]; exact hP, hD⟩, hS.F ht⟩) hS.2.2 d_Machine_meet_16

def m_Machine_settle_b96 (n : Nat) (g : Nat → Nat) (i : Nat → Int32) (a : Nat → Nat → Int32) (v1 : Int32) (v2 : Int32) (v3 : Int32) : Option ((Nat → Int32) × (Nat → Nat → Int32) × Int32) := if v3 = ((0 : Int32)) then ob (m_Machine_settleWhole n g i a v1) (fun i_15 a_16 r_17 => some (i_15, a_16, r_17)) else ck v2 401 (if ((a 47 v2.toNatClampNeg)) = ((4 : Int32)) then ob (m_Machine_closeParen n g i a v1 v2) (fun i_11 a_12 r_13 => some (i_11, a_12, r_13)) else if ((i 47)) = ((-2147483648 : Int32)) then some (i, a, (-2147483644)) else ob1 (upd i 46 0 : Nat → Int32) (fun i_5 => ob (m_Waiting_supply n g i_5 a (i_5 47)) (fun i_7 a_8 r_9 => some (i_7, a_8, (-2147483584)))))
set_option maxHeartbeats 4000000 in
set_option maxRecDepth 100000 in
theorem lb_Machine_settle_96 (l : Launch) (dC : Nat → ClassId) (dI : Nat → Nat → Nat) (cI : ClassId) (adK adV adA u o g : Nat → Nat) (n : Nat) {p : Program} {e : Env} {s : State} {m : MethodId} {args : Array Value} {below : List Frame} {meth : Method} {c : Code} {A : Nat → Prop} (hx : p.tables.exec = Jvm.exec) (hb : c.code = b_Machine_settle) (hml : c.maxLocals = 5) (hown : s.vm.findClass R_Machine = some m.cls) (hts : ∀ w ∈ w_Machine_settle, w.before args s = true) (hK : va_K (dC, dI) classes [(cI, .int)] s) (hE : tw_E adK adV adA A s s.heap) (hA : ∀ q : Nat, s.heap.size ≤ q → A q) (hr : meth.sig.returnType = (some .int)) (hlocks : meth.locks = false) {i2 : Nat → Int32} {a2 : Nat → Nat → Int32} {r2 : Int32} (i : Nat → Int32) (a : Nat → Nat → Int32) (v1 : Int32) (v2 : Int32) (v3 : Int32) (hm : m_Machine_settle_b96 n g i a v1 v2 v3 = some (i2, a2, r2)) : ∀ (H : Heap) (locs : List Loc) (ls : Array Slot), va_P (dC, dI) classes (TW cI u o i a g) H → va_D A (TW cI u o i a g) → va_S A s.heap H locs → lv_has ls 5 [(0, .ref ((u 11))), (1, .int v1), (2, .int v2), (3, .int v3)] → W p l e ({ frames := 5, cells := 0, slots := 0, locals := 115 } : Room) s m args below meth c H locs 0 0 (MQ below (va_Qi (xR r2) (xB dC dI cI u o g i2 a2 A) A) args s 0 0 A) (F0 m 96 ls []) := by
  have htt : ∀ w ∈ tw_T, w.before _ s = true := fun w h => hts w (List.mem_cons_of_mem _ h)
  intro H locs ls hP hD hS hl
  rw [m_Machine_settle_b96] at hm
  refine lv_iload_n hx hb d_Machine_settle_96 rfl (lv_at hl 3 rfl) ?_
  refine lv_if_ne (tgt := 106) hx hb d_Machine_settle_97 (by decide) (fun c_1 => ?_) (fun c_1 => ?_)
  · replace hm := if_f c_1 hm
    refine lv_aload_n hx hb d_Machine_settle_106 rfl (lv_at hl 0 rfl) ?_
    refine va_get (D := (dC, dI)) (ci := 11) (v := .ref ((u 9))) (C := R_Machine) (T := F_Machine) (N := 9) hx hb htt iw_Machine hown hK hP 11 xo_11 rfl 2 (Nat.le_of_ble_eq_true rfl) (htt _ lk_Machine_22) (fun _ h9 => h9) xg_11_2 d_Machine_settle_107 ?_
    refine va_get (D := (dC, dI)) (ci := 9) (v := .ref ((u 57))) (C := R_Waiting) (T := F_Waiting) (N := 11) hx hb htt iw_Waiting hown hK hP 9 xo_9 rfl 0 (Nat.le_of_ble_eq_true rfl) (htt _ lk_Machine_241) (fun _ h9 => h9) xg_9_0 d_Machine_settle_110 ?_
    refine lv_iload_n hx hb d_Machine_settle_113 rfl (lv_at hl 2 rfl) ?_
    obtain ⟨h_2, hm⟩ := ck_some hm
    refine va_iald hx hb hK hP 59 0 twA_47 rfl h_2 d_Machine_settle_114 ?_
    refine lv_iconst (v := 4) hx hb d_Machine_settle_115 (by decide) ?_
    refine lv_icmp_ne (tgt := 126) hx hb d_Machine_settle_116 (by decide) (fun c_3 => ?_) (fun c_3 => ?_)
    · replace hm := if_f c_3 hm
      refine lv_aload_n hx hb d_Machine_settle_126 rfl (lv_at hl 0 rfl) ?_
      refine va_get (D := (dC, dI)) (ci := 11) (v := .int (i 47)) (C := R_Machine) (T := F_Machine) (N := 9) hx hb htt iw_Machine hown hK hP 11 xo_11 rfl 8 (Nat.le_of_ble_eq_true rfl) (htt _ lk_Machine_111) (fun _ h9 => h9) xg_11_8 d_Machine_settle_127 ?_
      refine lv_ldc (v := (-2147483648)) hx hb hown (htt _ lk_Machine_114) d_Machine_settle_130 ?_
      refine lv_icmp_ne (tgt := 138) hx hb d_Machine_settle_132 (by decide) (fun c_4 => ?_) (fun c_4 => ?_)
      · replace hm := if_f c_4 hm
        refine lv_aload_n hx hb d_Machine_settle_138 rfl (lv_at hl 0 rfl) ?_
        refine lv_iconst (v := 0) hx hb d_Machine_settle_139 (by decide) ?_
        refine va_put (D := (dC, dI)) (ci := 11) (v := .int 0) (ty := .int) (C := R_Machine) (T := F_Machine) (N := 9) hx hb htt iw_Machine t_Machine t_Machine_ok n_Machine hown hK hP hD hS 11 xo_11 rfl 7 (Nat.le_of_ble_eq_true rfl) (htt _ lk_Machine_62) (fun _ h9 => h9) rfl (by decide +kernel) rfl rfl xl_11_7 d_Machine_settle_140 (fun H locs hP hD hS => ?_)
        obtain ⟨i_5, ei_5⟩ : ∃ y9 : Nat → Int32, y9 = upd i 46 0 := ⟨_, rfl⟩
        replace hm := ob1_at ei_5 hm
        obtain ⟨hP, hD⟩ := xw_46 ei_5 hP hD
        refine lv_aload_n hx hb d_Machine_settle_143 rfl (lv_at hl 0 rfl) ?_
        refine va_get (D := (dC, dI)) (ci := 11) (v := .ref ((u 9))) (C := R_Machine) (T := F_Machine) (N := 9) hx hb htt iw_Machine hown hK hP 11 xo_11 rfl 2 (Nat.le_of_ble_eq_true rfl) (htt _ lk_Machine_22) (fun _ h9 => h9) xg_11_2 d_Machine_settle_144 ?_
        refine lv_aload_n hx hb d_Machine_settle_147 rfl (lv_at hl 0 rfl) ?_
        refine va_get (D := (dC, dI)) (ci := 11) (v := .int (i_5 47)) (C := R_Machine) (T := F_Machine) (N := 9) hx hb htt iw_Machine hown hK hP 11 xo_11 rfl 8 (Nat.le_of_ble_eq_true rfl) (htt _ lk_Machine_111) (fun _ h9 => h9) xg_11_8 d_Machine_settle_148 ?_
        obtain ⟨i_7, a_8, r_9, h_6, hm⟩ := ob_some hm
        have hFc := x_free hD hS hA
        refine va_callv (va_runV (As := [.int (i_5 47)]) (rest := []) ⟨hx, hb, hml, hown, hts⟩ (x_Waiting_supply l dC dI cI adK adV adA u o g H.size n h_6) (cwV 1 hts (tw_GV tw_cons cw_Waiting_supply lk_Machine_245 in_Waiting_supply sel_Waiting_supply ini_Waiting) rfl rfl rfl ⟨rfl, hd_Waiting_supply⟩ ⟨Nat.le_of_ble_eq_true rfl, Nat.le_of_ble_eq_true rfl⟩) (xpV hK hP hD hS hE hFc xo_9 rfl) rfl rfl hl.1 rfl (lv_room (Nat.le_of_ble_eq_true rfl)) d_Machine_settle_151 ⟨Nat.le_of_ble_eq_true rfl, Nat.le_of_ble_eq_true rfl⟩) hS (fun q _ h => hFc q h) hFc (fun u9 t9 H locs ht hvm e9 hB hz1 hk1 hS => ?_)
        obtain ⟨hP, hD⟩ := x_aft hB ht hFc
        clear hFc hk1 hz1 hvm hB ht
        refine lv_ldc (v := (-2147483584)) hx hb hown (htt _ lk_Machine_110) d_Machine_settle_154 ?_
        obtain ⟨e1i, e1a, e3⟩ := re3 hm
        obtain ⟨hP, hD⟩ := x_eq e1i e1a hP hD
        exact W.iret hx hb hr (fun t9 ht hW => ⟨⟨_, (), rfl, e3.symm, by rw [ht]; exact hP, hD⟩, hS.F ht⟩) hS.2.2 d_Machine_settle_156
      · replace hm := if_t c_4 hm
        refine lv_ldc (v := (-2147483644)) hx hb hown (htt _ lk_Machine_160) d_Machine_settle_135 ?_
        obtain ⟨e1i, e1a, e3⟩ := re3 hm
        obtain ⟨hP, hD⟩ := x_eq e1i e1a hP hD
        exact W.iret hx hb hr (fun t9 ht hW => ⟨⟨_, (), rfl, e3.symm, by rw [ht]; exact hP, hD⟩, hS.F ht⟩) hS.2.2 d_Machine_settle_137
    · replace hm := if_t c_3 hm
      refine lv_aload_n hx hb d_Machine_settle_119 rfl (lv_at hl 0 rfl) ?_
      refine lv_iload_n hx hb d_Machine_settle_120 rfl (lv_at hl 1 rfl) ?_
      refine lv_iload_n hx hb d_Machine_settle_121 rfl (lv_at hl 2 rfl) ?_
      obtain ⟨i_11, a_12, r_13, h_10, hm⟩ := ob_some hm
      have hFc := x_free hD hS hA
      refine va_calli (va_runV (As := [.int v1, .int v2]) (rest := []) ⟨hx, hb, hml, hown, hts⟩ (x_Machine_closeParen l dC dI cI adK adV adA u o g H.size n h_10) (cwV 2 hts (tw_GV tw_cons cw_Machine_closeParen lk_Machine_242 in_Machine_closeParen sel_Machine_closeParen ini_Machine) rfl rfl rfl ⟨rfl, hd_Machine_closeParen⟩ ⟨Nat.le_of_ble_eq_true rfl, Nat.le_of_ble_eq_true rfl⟩) (xpV hK hP hD hS hE hFc xo_11 rfl) rfl rfl hl.1 rfl (lv_room (Nat.le_of_ble_eq_true rfl)) d_Machine_settle_122 ⟨Nat.le_of_ble_eq_true rfl, Nat.le_of_ble_eq_true rfl⟩) hS (fun q _ h => hFc q h) hFc (fun r9 u9 t9 H locs ht hvm e9 hB hz1 hk1 hS => ?_)
      have e9 : r_13 = r9 := e9
      subst e9
      obtain ⟨hP, hD⟩ := x_aft hB ht hFc
      clear hFc hk1 hz1 hvm hB ht
      obtain ⟨e1i, e1a, e3⟩ := re3 hm
      obtain ⟨hP, hD⟩ := x_eq e1i e1a hP hD
      exact W.iret hx hb hr (fun t9 ht hW => ⟨⟨_, (), rfl, e3.symm, by rw [ht]; exact hP, hD⟩, hS.F ht⟩) hS.2.2 d_Machine_settle_125
  · replace hm := if_t c_1 hm
    refine lv_aload_n hx hb d_Machine_settle_100 rfl (lv_at hl 0 rfl) ?_
    refine lv_iload_n hx hb d_Machine_settle_101 rfl (lv_at hl 1 rfl) ?_
    obtain ⟨i_15, a_16, r_17, h_14, hm⟩ := ob_some hm
    have hFc := x_free hD hS hA
    refine va_calli (va_runV (As := [.int v1]) (rest := []) ⟨hx, hb, hml, hown, hts⟩ (x_Machine_settleWhole l dC dI cI adK adV adA u o g H.size n h_14) (cwV 1 hts (tw_GV tw_cons cw_Machine_settleWhole lk_Machine_238 in_Machine_settleWhole sel_Machine_settleWhole ini_Machine) rfl rfl rfl ⟨rfl, hd_Machine_settleWhole⟩ ⟨Nat.le_of_ble_eq_true rfl, Nat.le_of_ble_eq_true rfl⟩) (xpV hK hP hD hS hE hFc xo_11 rfl) rfl rfl hl.1 rfl (lv_room (Nat.le_of_ble_eq_true rfl)) d_Machine_settle_102 ⟨Nat.le_of_ble_eq_true rfl, Nat.le_of_ble_eq_true rfl⟩) hS (fun q _ h => hFc q h) hFc (fun r9 u9 t9 H locs ht hvm e9 hB hz1 hk1 hS => ?_)
    have e9 : r_17 = r9 := e9
    subst e9
    obtain ⟨hP, hD⟩ := x_aft hB ht hFc
    clear hFc hk1 hz1 hvm hB ht
    obtain ⟨e1i, e1a, e3⟩ := re3 hm
    obtain ⟨hP, hD⟩ := x_eq e1i e1a hP hD
    exact W.iret hx hb hr (fun t9 ht hW => ⟨⟨_, (), rfl, e3.symm, by rw [ht]; exact hP, hD⟩, hS.F ht⟩) hS.2.2 d_Machine_settle_105
def m_Machine_settle_b85 (n : Nat) (g : Nat → Nat) (i : Nat → Int32) (a : Nat → Nat → Int32) (v1 : Int32) (v2 : Int32) (v3 : Int32) (v4 : Int32) (s0 : Int32) (s1 : Int32) : Option ((Nat → Int32) × (Nat → Nat → Int32) × Int32) := if s1 ≤ s0 then m_Machine_settle_b96 n g i a v1 v2 v3 else ob (m_Machine_meetSign n g i a v4 v1) (fun i_3 a_4 r_5 => some (i_3, a_4, r_5))
set_option maxHeartbeats 4000000 in
set_option maxRecDepth 100000 in
theorem lb_Machine_settle_85 (l : Launch) (dC : Nat → ClassId) (dI : Nat → Nat → Nat) (cI : ClassId) (adK adV adA u o g : Nat → Nat) (n : Nat) {p : Program} {e : Env} {s : State} {m : MethodId} {args : Array Value} {below : List Frame} {meth : Method} {c : Code} {A : Nat → Prop} (hx : p.tables.exec = Jvm.exec) (hb : c.code = b_Machine_settle) (hml : c.maxLocals = 5) (hown : s.vm.findClass R_Machine = some m.cls) (hts : ∀ w ∈ w_Machine_settle, w.before args s = true) (hK : va_K (dC, dI) classes [(cI, .int)] s) (hE : tw_E adK adV adA A s s.heap) (hA : ∀ q : Nat, s.heap.size ≤ q → A q) (hr : meth.sig.returnType = (some .int)) (hlocks : meth.locks = false) {i2 : Nat → Int32} {a2 : Nat → Nat → Int32} {r2 : Int32} (i : Nat → Int32) (a : Nat → Nat → Int32) (v1 : Int32) (v2 : Int32) (v3 : Int32) (v4 : Int32) (s0 : Int32) (s1 : Int32) (hm : m_Machine_settle_b85 n g i a v1 v2 v3 v4 s0 s1 = some (i2, a2, r2)) : ∀ (H : Heap) (locs : List Loc) (ls : Array Slot), va_P (dC, dI) classes (TW cI u o i a g) H → va_D A (TW cI u o i a g) → va_S A s.heap H locs → lv_has ls 5 [(0, .ref ((u 11))), (1, .int v1), (2, .int v2), (3, .int v3), (4, .int v4)] → W p l e ({ frames := 5, cells := 0, slots := 0, locals := 115 } : Room) s m args below meth c H locs 0 0 (MQ below (va_Qi (xR r2) (xB dC dI cI u o g i2 a2 A) A) args s 0 0 A) (F0 m 85 ls [.int s0, .int s1]) := by
  have htt : ∀ w ∈ tw_T, w.before _ s = true := fun w h => hts w (List.mem_cons_of_mem _ h)
  intro H locs ls hP hD hS hl
  rw [m_Machine_settle_b85] at hm
  refine lv_icmp_le (tgt := 96) hx hb d_Machine_settle_85 (by decide) (fun c_1 => ?_) (fun c_1 => ?_)
  · replace hm := if_t c_1 hm
    exact lb_Machine_settle_96 l dC dI cI adK adV adA u o g n hx hb hml hown hts hK hE hA hr hlocks _ _ _ _ _ hm _ _ _ hP hD hS (lv_sub hl [0, 1, 2, 3] rfl)
  · replace hm := if_f c_1 hm
    refine lv_aload_n hx hb d_Machine_settle_88 rfl (lv_at hl 0 rfl) ?_
    refine lv_iload hx hb d_Machine_settle_89 (lv_at hl 4 rfl) ?_
    refine lv_iload_n hx hb d_Machine_settle_91 rfl (lv_at hl 1 rfl) ?_
    obtain ⟨i_3, a_4, r_5, h_2, hm⟩ := ob_some hm
    have hFc := x_free hD hS hA
    refine va_calli (va_runV (As := [.int v4, .int v1]) (rest := []) ⟨hx, hb, hml, hown, hts⟩ (x_Machine_meetSign l dC dI cI adK adV adA u o g H.size n h_2) (cwV 2 hts (tw_GV tw_cons cw_Machine_meetSign lk_Machine_235 in_Machine_meetSign sel_Machine_meetSign ini_Machine) rfl rfl rfl ⟨rfl, hd_Machine_meetSign⟩ ⟨Nat.le_of_ble_eq_true rfl, Nat.le_of_ble_eq_true rfl⟩) (xpV hK hP hD hS hE hFc xo_11 rfl) rfl rfl hl.1 rfl (lv_room (Nat.le_of_ble_eq_true rfl)) d_Machine_settle_92 ⟨Nat.le_of_ble_eq_true rfl, Nat.le_of_ble_eq_true rfl⟩) hS (fun q _ h => hFc q h) hFc (fun r9 u9 t9 H locs ht hvm e9 hB hz1 hk1 hS => ?_)
    have e9 : r_5 = r9 := e9
    subst e9
    obtain ⟨hP, hD⟩ := x_aft hB ht hFc
    clear hFc hk1 hz1 hvm hB ht
    obtain ⟨e1i, e1a, e3⟩ := re3 hm
    obtain ⟨hP, hD⟩ := x_eq e1i e1a hP hD
    exact W.iret hx hb hr (fun t9 ht hW => ⟨⟨_, (), rfl, e3.symm, by rw [ht]; exact hP, hD⟩, hS.F ht⟩) hS.2.2 d_Machine_settle_95
def m_Machine_settle_b49 (n : Nat) (g : Nat → Nat) (i : Nat → Int32) (a : Nat → Nat → Int32) (v1 : Int32) (v2 : Int32) (s0 : Int32) : Option ((Nat → Int32) × (Nat → Nat → Int32) × Int32) := ob0 (m_Machine_signAhead n g i a v1) (fun r_2 => if r_2 < ((0 : Int32)) then m_Machine_settle_b96 n g i a v1 v2 s0 else ck r_2 7 (if s0 = ((0 : Int32)) then m_Machine_settle_b85 n g i a v1 v2 s0 r_2 (0 : Int32) (tw_st 1 r_2.toNatClampNeg) else ck v2 401 (m_Machine_settle_b85 n g i a v1 v2 s0 r_2 (a 50 v2.toNatClampNeg) (tw_st 1 r_2.toNatClampNeg))))
set_option maxHeartbeats 4000000 in
set_option maxRecDepth 100000 in
theorem lb_Machine_settle_49 (l : Launch) (dC : Nat → ClassId) (dI : Nat → Nat → Nat) (cI : ClassId) (adK adV adA u o g : Nat → Nat) (n : Nat) {p : Program} {e : Env} {s : State} {m : MethodId} {args : Array Value} {below : List Frame} {meth : Method} {c : Code} {A : Nat → Prop} (hx : p.tables.exec = Jvm.exec) (hb : c.code = b_Machine_settle) (hml : c.maxLocals = 5) (hown : s.vm.findClass R_Machine = some m.cls) (hts : ∀ w ∈ w_Machine_settle, w.before args s = true) (hK : va_K (dC, dI) classes [(cI, .int)] s) (hE : tw_E adK adV adA A s s.heap) (hA : ∀ q : Nat, s.heap.size ≤ q → A q) (hr : meth.sig.returnType = (some .int)) (hlocks : meth.locks = false) {i2 : Nat → Int32} {a2 : Nat → Nat → Int32} {r2 : Int32} (i : Nat → Int32) (a : Nat → Nat → Int32) (v1 : Int32) (v2 : Int32) (s0 : Int32) (hm : m_Machine_settle_b49 n g i a v1 v2 s0 = some (i2, a2, r2)) : ∀ (H : Heap) (locs : List Loc) (ls : Array Slot), va_P (dC, dI) classes (TW cI u o i a g) H → va_D A (TW cI u o i a g) → va_S A s.heap H locs → lv_has ls 5 [(0, .ref ((u 11))), (1, .int v1), (2, .int v2)] → W p l e ({ frames := 5, cells := 0, slots := 0, locals := 115 } : Room) s m args below meth c H locs 0 0 (MQ below (va_Qi (xR r2) (xB dC dI cI u o g i2 a2 A) A) args s 0 0 A) (F0 m 49 ls [.int s0]) := by
  have htt : ∀ w ∈ tw_T, w.before _ s = true := fun w h => hts w (List.mem_cons_of_mem _ h)
  intro H locs ls hP hD hS hl
  rw [m_Machine_settle_b49] at hm
  refine lv_istore_n (lv' := [(3, .int s0), (0, .ref ((u 11))), (1, .int v1), (2, .int v2)]) hx hb d_Machine_settle_49 rfl hl (by decide) rfl (fun ls hl => ?_)
  refine lv_aload_n hx hb d_Machine_settle_50 rfl (lv_at hl 1 rfl) ?_
  refine lv_iload_n hx hb d_Machine_settle_51 rfl (lv_at hl 2 rfl) ?_
  obtain ⟨r_2, h_1, hm⟩ := ob0_some hm
  have hFc := x_free0 hS hA
  refine va_calli (va_runV (As := [.int v1]) (rest := []) ⟨hx, hb, hml, hown, hts⟩ (x_Machine_signAhead l dC dI cI adK adV adA u o g H.size n h_1) (cwV 1 hts (tw_GV tw_cons cw_Machine_signAhead lk_Machine_226 in_Machine_signAhead sel_Machine_signAhead ini_Machine) rfl rfl rfl ⟨rfl, hd_Machine_signAhead⟩ ⟨Nat.le_of_ble_eq_true rfl, Nat.le_of_ble_eq_true rfl⟩) (xpVr hK hP hS hE hFc xo_11 rfl) rfl rfl hl.1 rfl (lv_room (Nat.le_of_ble_eq_true rfl)) d_Machine_settle_52 ⟨Nat.le_of_ble_eq_true rfl, Nat.le_of_ble_eq_true rfl⟩) hS (fun q _ h => hFc q h) hFc (fun r9 u9 t9 H locs ht hvm e9 hB hz1 hk1 hS => ?_)
  have e9 : r_2 = r9 := e9
  subst e9
  replace hP := x_keep hP hk1
  clear hFc hk1 hz1 hvm hB ht
  refine lv_istore (lv' := [(4, .int r_2), (3, .int s0), (0, .ref ((u 11))), (1, .int v1), (2, .int v2)]) hx hb d_Machine_settle_55 hl (by decide) rfl (fun ls hl => ?_)
  refine lv_iload hx hb d_Machine_settle_57 (lv_at hl 0 rfl) ?_
  refine lv_if_lt (tgt := 96) hx hb d_Machine_settle_59 (by decide) (fun c_3 => ?_) (fun c_3 => ?_)
  · replace hm := if_t c_3 hm
    exact lb_Machine_settle_96 l dC dI cI adK adV adA u o g n hx hb hml hown hts hK hE hA hr hlocks _ _ _ _ _ hm _ _ _ hP hD hS (lv_sub hl [2, 3, 4, 1] rfl)
  · replace hm := if_f c_3 hm
    refine va_gets hx hb (hE.2 1 (by decide)).1 hS hown (htt _ lk_Machine_229) (fun _ h9 => h9) d_Machine_settle_62 ?_
    refine lv_iload hx hb d_Machine_settle_65 (lv_at hl 0 rfl) ?_
    obtain ⟨h_4, hm⟩ := ck_some hm
    refine va_ti (N := 7) (v := .int (tw_st 1 r_2.toNatClampNeg)) hx hb (hE.2 1 (by decide)).2 hS h_4 rfl d_Machine_settle_67 ?_
    refine lv_iload_n hx hb d_Machine_settle_68 rfl (lv_at hl 1 rfl) ?_
    refine lv_if_eq (tgt := 84) hx hb d_Machine_settle_69 (by decide) (fun c_5 => ?_) (fun c_5 => ?_)
    · replace hm := if_t c_5 hm
      refine lv_iconst (v := 0) hx hb d_Machine_settle_84 (by decide) ?_
      exact lb_Machine_settle_85 l dC dI cI adK adV adA u o g n hx hb hml hown hts hK hE hA hr hlocks _ _ _ _ _ _ _ _ hm _ _ _ hP hD hS (lv_sub hl [2, 3, 4, 1, 0] rfl)
    · replace hm := if_f c_5 hm
      refine lv_aload_n hx hb d_Machine_settle_72 rfl (lv_at hl 2 rfl) ?_
      refine va_get (D := (dC, dI)) (ci := 11) (v := .ref ((u 9))) (C := R_Machine) (T := F_Machine) (N := 9) hx hb htt iw_Machine hown hK hP 11 xo_11 rfl 2 (Nat.le_of_ble_eq_true rfl) (htt _ lk_Machine_22) (fun _ h9 => h9) xg_11_2 d_Machine_settle_73 ?_
      refine va_get (D := (dC, dI)) (ci := 9) (v := .ref ((u 60))) (C := R_Waiting) (T := F_Waiting) (N := 11) hx hb htt iw_Waiting hown hK hP 9 xo_9 rfl 3 (Nat.le_of_ble_eq_true rfl) (htt _ lk_Machine_232) (fun _ h9 => h9) xg_9_3 d_Machine_settle_76 ?_
      refine lv_iload_n hx hb d_Machine_settle_79 rfl (lv_at hl 4 rfl) ?_
      obtain ⟨h_6, hm⟩ := ck_some hm
      refine va_iald hx hb hK hP 62 0 twA_50 rfl h_6 d_Machine_settle_80 ?_
      refine lv_goto (tgt := 85) hx hb d_Machine_settle_81 (by decide) ?_
      exact lb_Machine_settle_85 l dC dI cI adK adV adA u o g n hx hb hml hown hts hK hE hA hr hlocks _ _ _ _ _ _ _ _ hm _ _ _ hP hD hS (lv_sub hl [2, 3, 4, 1, 0] rfl)
def m_Machine_settle_b48 (n : Nat) (g : Nat → Nat) (i : Nat → Int32) (a : Nat → Nat → Int32) (v1 : Int32) (v2 : Int32) : Option ((Nat → Int32) × (Nat → Nat → Int32) × Int32) := m_Machine_settle_b49 n g i a v1 v2 (0 : Int32)
set_option maxHeartbeats 4000000 in
set_option maxRecDepth 100000 in
theorem lb_Machine_settle_48 (l : Launch) (dC : Nat → ClassId) (dI : Nat → Nat → Nat) (cI : ClassId) (adK adV adA u o g : Nat → Nat) (n : Nat) {p : Program} {e : Env} {s : State} {m : MethodId} {args : Array Value} {below : List Frame} {meth : Method} {c : Code} {A : Nat → Prop} (hx : p.tables.exec = Jvm.exec) (hb : c.code = b_Machine_settle) (hml : c.maxLocals = 5) (hown : s.vm.findClass R_Machine = some m.cls) (hts : ∀ w ∈ w_Machine_settle, w.before args s = true) (hK : va_K (dC, dI) classes [(cI, .int)] s) (hE : tw_E adK adV adA A s s.heap) (hA : ∀ q : Nat, s.heap.size ≤ q → A q) (hr : meth.sig.returnType = (some .int)) (hlocks : meth.locks = false) {i2 : Nat → Int32} {a2 : Nat → Nat → Int32} {r2 : Int32} (i : Nat → Int32) (a : Nat → Nat → Int32) (v1 : Int32) (v2 : Int32) (hm : m_Machine_settle_b48 n g i a v1 v2 = some (i2, a2, r2)) : ∀ (H : Heap) (locs : List Loc) (ls : Array Slot), va_P (dC, dI) classes (TW cI u o i a g) H → va_D A (TW cI u o i a g) → va_S A s.heap H locs → lv_has ls 5 [(0, .ref ((u 11))), (1, .int v1), (2, .int v2)] → W p l e ({ frames := 5, cells := 0, slots := 0, locals := 115 } : Room) s m args below meth c H locs 0 0 (MQ below (va_Qi (xR r2) (xB dC dI cI u o g i2 a2 A) A) args s 0 0 A) (F0 m 48 ls []) := by
  have htt : ∀ w ∈ tw_T, w.before _ s = true := fun w h => hts w (List.mem_cons_of_mem _ h)
  intro H locs ls hP hD hS hl
  rw [m_Machine_settle_b48] at hm
  refine lv_iconst (v := 0) hx hb d_Machine_settle_48 (by decide) ?_
  exact lb_Machine_settle_49 l dC dI cI adK adV adA u o g n hx hb hml hown hts hK hE hA hr hlocks _ _ _ _ _ hm _ _ _ hP hD hS (lv_sub hl [0, 1, 2] rfl)
def m_Machine_settle (n : Nat) (g : Nat → Nat) (i : Nat → Int32) (a : Nat → Nat → Int32)  : Option ((Nat → Int32) × (Nat → Nat → Int32) × Int32) := ob1 ((i 40) - 1 : Int32) (fun x_1 => if ((0 : Int32)) ≤ x_1 then ob1 ((i 42) - 1 : Int32) (fun x_3 => ck x_1 150 (if x_3 < ((a 44 x_1.toNatClampNeg)) then m_Machine_settle_b48 n g i a x_1 x_3 else if x_3 < ((0 : Int32)) then m_Machine_settle_b48 n g i a x_1 x_3 else m_Machine_settle_b49 n g i a x_1 x_3 (1 : Int32))) else some (i, a, (-2147483644)))
set_option maxHeartbeats 4000000 in
set_option maxRecDepth 100000 in
theorem x_Machine_settle (l : Launch) (dC : Nat → ClassId) (dI : Nat → Nat → Nat) (cI : ClassId) (adK adV adA u o g : Nat → Nat) (sz : Nat) (n : Nat) {i : Nat → Int32} {a : Nat → Nat → Int32}  {i2 : Nat → Int32} {a2 : Nat → Nat → Int32} {r2 : Int32} (hm : m_Machine_settle n g i a = some (i2, a2, r2)) : Met l y_Machine_settle w_Machine_settle ({ frames := 5, cells := 0, slots := 0, locals := 115 } : Room) (va_Pc [.ref ((u 11))] (xE dC dI cI adK adV adA u o g i a sz)) (va_Qi (xR r2) (xB dC dI cI u o g i2 a2 (va_A (TW cI u o i a g) sz)) (va_A (TW cI u o i a g) sz)) 0 0 ((va_A (TW cI u o i a g) sz)) := by
  refine Met.ofW (cc := b_Machine_settle) (maxL := 5) (ret := (some .int)) (by decide) rfl ?_
  intro p e s m args below meth c s₁ B hml hv
  obtain ⟨rfl, hsz, hP, hK, hE, hD0⟩ := hv
  have hx := B.exec
  have hb := B.bytes
  have hr := B.returns
  have hts := atoms_spec (ws := w_Machine_settle) B.pre
  have htt : ∀ w ∈ tw_T, w.before _ s = true := fun w h => hts w (List.mem_cons_of_mem _ h)
  have hown : s.vm.findClass R_Machine = some m.cls := findClass_of_methodNamed B.named
  have hlocks := B.notSynchronized
  subst hsz
  have hD := hD0.self (sz := s.heap.size)
  generalize hAe : (va_A (TW cI u o i a g) s.heap.size) = A at hD hE ⊢
  have hA : ∀ q : Nat, s.heap.size ≤ q → A q := fun q h => by rw [← hAe]; exact Or.inr h
  have hS : va_S A s.heap s.heap [] := va_S.rf
  have hl := lv_entry ([.ref ((u 11))]) (n := 5) (Nat.le_of_ble_eq_true rfl)
  rw [lg_entry_eq]
  generalize (lg_sl ([.ref ((u 11))]) ++ List.replicate (5 - (lg_sl ([.ref ((u 11))])).length) Slot.unset).toArray = ls at hl ⊢
  have hl : lv_has ls 5 [(0, .ref ((u 11)))] := hl
  rw [m_Machine_settle] at hm
  refine lv_aload_n hx hb d_Machine_settle_0 rfl (lv_at hl 0 rfl) ?_
  refine va_get (D := (dC, dI)) (ci := 11) (v := .ref ((u 8))) (C := R_Machine) (T := F_Machine) (N := 9) hx hb htt iw_Machine hown hK hP 11 xo_11 rfl 1 (Nat.le_of_ble_eq_true rfl) (htt _ lk_Machine_18) (fun _ h9 => h9) xg_11_1 d_Machine_settle_1 ?_
  refine va_get (D := (dC, dI)) (ci := 8) (v := .int (i 40)) (C := R_Line) (T := F_Line) (N := 18) hx hb htt iw_Line hown hK hP 8 xo_8 rfl 6 (Nat.le_of_ble_eq_true rfl) (htt _ lk_Machine_130) (fun _ h9 => h9) xg_8_6 d_Machine_settle_4 ?_
  refine lv_iconst (v := 1) hx hb d_Machine_settle_7 (by decide) ?_
  refine lv_isub hx hb d_Machine_settle_8 ?_
  refine lv_topi (fun x_1 ex_1 => ?_)
  replace hm := ob1_at ex_1 hm
  refine lv_istore_n (lv' := [(1, .int x_1), (0, .ref ((u 11)))]) hx hb d_Machine_settle_9 rfl hl (by decide) rfl (fun ls hl => ?_)
  refine lv_iload_n hx hb d_Machine_settle_10 rfl (lv_at hl 0 rfl) ?_
  refine lv_if_ge (tgt := 17) hx hb d_Machine_settle_11 (by decide) (fun c_2 => ?_) (fun c_2 => ?_)
  · replace hm := if_t c_2 hm
    refine lv_aload_n hx hb d_Machine_settle_17 rfl (lv_at hl 1 rfl) ?_
    refine va_get (D := (dC, dI)) (ci := 11) (v := .ref ((u 9))) (C := R_Machine) (T := F_Machine) (N := 9) hx hb htt iw_Machine hown hK hP 11 xo_11 rfl 2 (Nat.le_of_ble_eq_true rfl) (htt _ lk_Machine_22) (fun _ h9 => h9) xg_11_2 d_Machine_settle_18 ?_
    refine va_get (D := (dC, dI)) (ci := 9) (v := .int (i 42)) (C := R_Waiting) (T := F_Waiting) (N := 11) hx hb htt iw_Waiting hown hK hP 9 xo_9 rfl 7 (Nat.le_of_ble_eq_true rfl) (htt _ lk_Machine_42) (fun _ h9 => h9) xg_9_7 d_Machine_settle_21 ?_
    refine lv_iconst (v := 1) hx hb d_Machine_settle_24 (by decide) ?_
    refine lv_isub hx hb d_Machine_settle_25 ?_
    refine lv_topi (fun x_3 ex_3 => ?_)
    replace hm := ob1_at ex_3 hm
    refine lv_istore_n (lv' := [(2, .int x_3), (1, .int x_1), (0, .ref ((u 11)))]) hx hb d_Machine_settle_26 rfl hl (by decide) rfl (fun ls hl => ?_)
    refine lv_iload_n hx hb d_Machine_settle_27 rfl (lv_at hl 0 rfl) ?_
    refine lv_aload_n hx hb d_Machine_settle_28 rfl (lv_at hl 2 rfl) ?_
    refine va_get (D := (dC, dI)) (ci := 11) (v := .ref ((u 8))) (C := R_Machine) (T := F_Machine) (N := 9) hx hb htt iw_Machine hown hK hP 11 xo_11 rfl 1 (Nat.le_of_ble_eq_true rfl) (htt _ lk_Machine_18) (fun _ h9 => h9) xg_11_1 d_Machine_settle_29 ?_
    refine va_get (D := (dC, dI)) (ci := 8) (v := .ref ((u 54))) (C := R_Line) (T := F_Line) (N := 18) hx hb htt iw_Line hown hK hP 8 xo_8 rfl 15 (Nat.le_of_ble_eq_true rfl) (htt _ lk_Machine_151) (fun _ h9 => h9) xg_8_15 d_Machine_settle_32 ?_
    refine lv_iload_n hx hb d_Machine_settle_35 rfl (lv_at hl 1 rfl) ?_
    obtain ⟨h_4, hm⟩ := ck_some hm
    refine va_iald hx hb hK hP 56 0 twA_44 rfl h_4 d_Machine_settle_36 ?_
    refine lv_icmp_lt (tgt := 48) hx hb d_Machine_settle_37 (by decide) (fun c_5 => ?_) (fun c_5 => ?_)
    · replace hm := if_t c_5 hm
      exact lb_Machine_settle_48 l dC dI cI adK adV adA u o g n hx hb hml hown hts hK hE hA hr hlocks _ _ _ _ hm _ _ _ hP hD hS (lv_sub hl [2, 1, 0] rfl)
    · replace hm := if_f c_5 hm
      refine lv_iload_n hx hb d_Machine_settle_40 rfl (lv_at hl 0 rfl) ?_
      refine lv_if_lt (tgt := 48) hx hb d_Machine_settle_41 (by decide) (fun c_6 => ?_) (fun c_6 => ?_)
      · replace hm := if_t c_6 hm
        exact lb_Machine_settle_48 l dC dI cI adK adV adA u o g n hx hb hml hown hts hK hE hA hr hlocks _ _ _ _ hm _ _ _ hP hD hS (lv_sub hl [2, 1, 0] rfl)
      · replace hm := if_f c_6 hm
        refine lv_iconst (v := 1) hx hb d_Machine_settle_44 (by decide) ?_
        refine lv_goto (tgt := 49) hx hb d_Machine_settle_45 (by decide) ?_
        exact lb_Machine_settle_49 l dC dI cI adK adV adA u o g n hx hb hml hown hts hK hE hA hr hlocks _ _ _ _ _ hm _ _ _ hP hD hS (lv_sub hl [2, 1, 0] rfl)
  · replace hm := if_f c_2 hm
    refine lv_ldc (v := (-2147483644)) hx hb hown (htt _ lk_Machine_160) d_Machine_settle_14 ?_
    obtain ⟨e1i, e1a, e3⟩ := re3 hm
    obtain ⟨hP, hD⟩ := x_eq e1i e1a hP hD
    exact W.iret hx hb hr (fun t9 ht hW => ⟨⟨_, (), rfl, e3.symm, by rw [ht]; exact hP, hD⟩, hS.F ht⟩) hS.2.2 d_Machine_settle_16

def m_Machine_finishList (n : Nat) (g : Nat → Nat) (i : Nat → Int32) (a : Nat → Nat → Int32)  : Option ((Nat → Int32) × (Nat → Nat → Int32) × (Nat → Nat) × (Nat × Nat) × Int32) := ob1 ((i 40) - 1 : Int32) (fun x_1 => if ((0 : Int32)) ≤ x_1 then ck x_1 150 (ob1 (a 37 x_1.toNatClampNeg : Int32) (fun x_4 => if x_4 = 0 then ob (m_Machine_finishLine n g i a (2 : Int32) (0 : Int32)) (fun i_7 a_8 r_9 => some (i_7, a_8, g, (0, 0), (-2147483584))) else if x_4 = 1 then ob (m_Machine_leaveGiving n g i a x_1 (i 47)) (fun i_14 a_15 r_16 => some (i_14, a_15, g, (0, 0), r_16)) else if x_4 = 2 then ob (m_Machine_leaveGiving n g i a x_1 (i 47)) (fun i_21 a_22 r_23 => some (i_21, a_22, g, (0, 0), r_23)) else if x_4 = 3 then ck x_1 150 (ck x_1 150 (if ((a 41 x_1.toNatClampNeg)) ≤ ((a 40 x_1.toNatClampNeg)) then ob (m_Machine_leaveGiving n g i a x_1 (-2147483648 : Int32)) (fun i_31 a_32 r_33 => some (i_31, a_32, g, (0, 0), r_33)) else ob (m_Machine_awaitTurn n g i a) (fun i_37 a_38 r_39 => some (i_37, a_38, g, (0, 0), r_39)))) else if x_4 = 4 then ob (m_Machine_awaitTurn n g i a) (fun i_44 a_45 r_46 => some (i_44, a_45, g, (0, 0), r_46)) else if x_4 = 5 then ck x_1 150 (ck x_1 150 (ob0 (m_Heap_count n g i a (a 42 x_1.toNatClampNeg)) (fun r_53 => if r_53 ≤ ((a 40 x_1.toNatClampNeg)) then ob (m_Machine_leaveGiving n g i a x_1 (-2147483648 : Int32)) (fun i_58 a_59 r_60 => some (i_58, a_59, g, (0, 0), r_60)) else ob (m_Machine_awaitTurn n g i a) (fun i_64 a_65 r_66 => some (i_64, a_65, g, (0, 0), r_66))))) else if x_4 = 6 then ob (m_Machine_leaveGiving n g i a x_1 (i 47)) (fun i_71 a_72 r_73 => some (i_71, a_72, g, (0, 0), r_73)) else if x_4 = 7 then ob (m_Machine_leaveGiving n g i a x_1 (i 47)) (fun i_78 a_79 r_80 => some (i_78, a_79, g, (0, 0), r_80)) else if x_4 = 8 then ob (m_Machine_leaveGiving n g i a x_1 (i 47)) (fun i_85 a_86 r_87 => some (i_85, a_86, g, (0, 0), r_87)) else if x_4 = 9 then ob (m_Machine_finishTest n g i a x_1 (i 47)) (fun i_92 a_93 r_94 => some (i_92, a_93, g, (0, 0), r_94)) else if x_4 = 10 then obG (m_Machine_finishMapped n g i a x_1 (i 47)) (fun i_99 a_100 g_101 r_103 => some (i_99, a_100, g_101, (0, 0), r_103)) else ob (m_Machine_leaveGiving n g i a x_1 (i 47)) (fun i_109 a_110 r_111 => some (i_109, a_110, g, (0, 0), r_111)))) else some (i, a, g, (0, 0), (-2147483644)))
set_option maxHeartbeats 4000000 in
set_option maxRecDepth 100000 in
theorem x_Machine_finishList (l : Launch) (dC : Nat → ClassId) (dI : Nat → Nat → Nat) (cI : ClassId) (adK adV adA u o g : Nat → Nat) (sz : Nat) (n : Nat) {i : Nat → Int32} {a : Nat → Nat → Int32}  {i2 : Nat → Int32} {a2 : Nat → Nat → Int32} {g2 : Nat → Nat} {k2 : Nat × Nat} {r2 : Int32} (hm : m_Machine_finishList n g i a = some (i2, a2, g2, k2, r2)) : Met l y_Machine_finishList w_Machine_finishList ({ frames := 6, cells := k2.1, slots := k2.2, locals := 157 } : Room) (va_Pc [.ref ((u 11))] (xE dC dI cI adK adV adA u o g i a sz)) (va_Qi (xRg r2) (xBg dC dI cI u g2 i2 a2 (va_A (TW cI u o i a g) sz)) (va_A (TW cI u o i a g) sz)) k2.1 k2.2 ((va_A (TW cI u o i a g) sz)) := by
  refine Met.ofW (cc := b_Machine_finishList) (maxL := 2) (ret := (some .int)) (by decide) rfl ?_
  intro p e s m args below meth c s₁ B hml hv
  obtain ⟨rfl, hsz, hP, hK, hE, hD0⟩ := hv
  have hx := B.exec
  have hb := B.bytes
  have hr := B.returns
  have hts := atoms_spec (ws := w_Machine_finishList) B.pre
  have htt : ∀ w ∈ tw_T, w.before _ s = true := fun w h => hts w (List.mem_cons_of_mem _ h)
  have hown : s.vm.findClass R_Machine = some m.cls := findClass_of_methodNamed B.named
  have hlocks := B.notSynchronized
  subst hsz
  have hD := hD0.self (sz := s.heap.size)
  generalize hAe : (va_A (TW cI u o i a g) s.heap.size) = A at hD hE ⊢
  have hA : ∀ q : Nat, s.heap.size ≤ q → A q := fun q h => by rw [← hAe]; exact Or.inr h
  have hS : va_S A s.heap s.heap [] := va_S.rf
  obtain ⟨mc, ms, emc, ems⟩ : ∃ mc ms : Nat, k2.1 = mc ∧ k2.2 = ms := ⟨_, _, rfl, rfl⟩
  have hkc : 0 + k2.1 = mc := by rw [Nat.zero_add]; exact emc
  have hks : 0 + k2.2 = ms := by rw [Nat.zero_add]; exact ems
  rw [emc, ems]
  clear emc ems
  have hl := lv_entry ([.ref ((u 11))]) (n := 2) (Nat.le_of_ble_eq_true rfl)
  rw [lg_entry_eq]
  generalize (lg_sl ([.ref ((u 11))]) ++ List.replicate (2 - (lg_sl ([.ref ((u 11))])).length) Slot.unset).toArray = ls at hl ⊢
  have hl : lv_has ls 2 [(0, .ref ((u 11)))] := hl
  rw [m_Machine_finishList] at hm
  refine lv_aload_n hx hb d_Machine_finishList_0 rfl (lv_at hl 0 rfl) ?_
  refine va_get (D := (dC, dI)) (ci := 11) (v := .ref ((u 8))) (C := R_Machine) (T := F_Machine) (N := 9) hx hb htt iw_Machine hown hK hP 11 xo_11 rfl 1 (Nat.le_of_ble_eq_true rfl) (htt _ lk_Machine_18) (fun _ h9 => h9) xg_11_1 d_Machine_finishList_1 ?_
  refine va_get (D := (dC, dI)) (ci := 8) (v := .int (i 40)) (C := R_Line) (T := F_Line) (N := 18) hx hb htt iw_Line hown hK hP 8 xo_8 rfl 6 (Nat.le_of_ble_eq_true rfl) (htt _ lk_Machine_130) (fun _ h9 => h9) xg_8_6 d_Machine_finishList_4 ?_
  refine lv_iconst (v := 1) hx hb d_Machine_finishList_7 (by decide) ?_
  refine lv_isub hx hb d_Machine_finishList_8 ?_
  refine lv_topi (fun x_1 ex_1 => ?_)
  replace hm := ob1_at ex_1 hm
  refine lv_istore_n (lv' := [(1, .int x_1), (0, .ref ((u 11)))]) hx hb d_Machine_finishList_9 rfl hl (by decide) rfl (fun ls hl => ?_)
  refine lv_iload_n hx hb d_Machine_finishList_10 rfl (lv_at hl 0 rfl) ?_
  refine lv_if_ge (tgt := 17) hx hb d_Machine_finishList_11 (by decide) (fun c_2 => ?_) (fun c_2 => ?_)
  · replace hm := if_t c_2 hm
    refine lv_aload_n hx hb d_Machine_finishList_17 rfl (lv_at hl 1 rfl) ?_
    refine va_get (D := (dC, dI)) (ci := 11) (v := .ref ((u 8))) (C := R_Machine) (T := F_Machine) (N := 9) hx hb htt iw_Machine hown hK hP 11 xo_11 rfl 1 (Nat.le_of_ble_eq_true rfl) (htt _ lk_Machine_18) (fun _ h9 => h9) xg_11_1 d_Machine_finishList_18 ?_
    refine va_get (D := (dC, dI)) (ci := 8) (v := .ref ((u 47))) (C := R_Line) (T := F_Line) (N := 18) hx hb htt iw_Line hown hK hP 8 xo_8 rfl 8 (Nat.le_of_ble_eq_true rfl) (htt _ lk_Machine_133) (fun _ h9 => h9) xg_8_8 d_Machine_finishList_21 ?_
    refine lv_iload_n hx hb d_Machine_finishList_24 rfl (lv_at hl 0 rfl) ?_
    obtain ⟨h_3, hm⟩ := ck_some hm
    refine va_iald hx hb hK hP 49 0 twA_37 rfl h_3 d_Machine_finishList_25 ?_
    refine lv_topi (fun x_4 ex_4 => ?_)
    replace hm := ob1_at ex_4 hm
    rcases Classical.em (x_4 = 0) with c_5 | c_5
    · replace hm := if_t c_5 hm
      refine lv_tableIn (x := x_4) (tgt := 84) hx hb d_Machine_finishList_26 (by rw [c_5]; decide) (by rw [c_5]; decide) (by rw [c_5]; rfl) (by decide) ?_
      refine lv_aload_n hx hb d_Machine_finishList_84 rfl (lv_at hl 1 rfl) ?_
      refine lv_iconst (v := 2) hx hb d_Machine_finishList_85 (by decide) ?_
      refine lv_iconst (v := 0) hx hb d_Machine_finishList_86 (by decide) ?_
      obtain ⟨i_7, a_8, r_9, h_6, hm⟩ := ob_some hm
      have hFc := x_free hD hS hA
      refine xg_callv (va_runV (As := [.int 2, .int 0]) (rest := []) ⟨hx, hb, hml, hown, hts⟩ (x_Machine_finishLine l dC dI cI adK adV adA u o g s.heap.size n h_6) (cwV 2 hts (tw_GV tw_cons cw_Machine_finishLine lk_Machine_106 in_Machine_finishLine sel_Machine_finishLine ini_Machine) rfl rfl rfl ⟨rfl, hd_Machine_finishLine⟩ ⟨Nat.le_of_ble_eq_true rfl, Nat.le_of_ble_eq_true rfl⟩) (xpV hK hP hD hS hE hFc xo_11 rfl) rfl rfl hl.1 rfl (lv_room (Nat.le_of_ble_eq_true rfl)) d_Machine_finishList_87 ⟨show 0 + 0 ≤ mc by omega, show 0 + 0 ≤ ms by omega⟩) hS (fun q _ h => hFc q h) hFc (fun kc_10 ks_11 u9 t9 H locs ekc eks ht hvm e9 hB hz1 hk1 hS => ?_)
      replace hkc : kc_10 + k2.1 = mc := by omega
      replace hks : ks_11 + k2.2 = ms := by omega
      clear ekc eks
      obtain ⟨hP, hD⟩ := x_aft hB ht hFc
      clear hFc hk1 hz1 hvm hB ht
      refine lv_ldc (v := (-2147483584)) hx hb hown (htt _ lk_Machine_110) d_Machine_finishList_90 ?_
      obtain ⟨e1, e2, e4, e5, e6, e3⟩ := re5 hm
      obtain ⟨hP, hD⟩ := x_eqg e1 e2 e4 hP hD
      refine W.widen (k := mc) (n := ms) (show kc_10 ≤ mc by omega) (show ks_11 ≤ ms by omega) ?_
      exact W.iret hx hb hr (fun t9 ht hW => ⟨⟨_, o, rfl, e3.symm, by rw [ht]; exact hP, hD⟩, hS.F ht⟩) hS.2.2 d_Machine_finishList_92
    replace hm := if_f c_5 hm
    rcases Classical.em (x_4 = 1) with c_12 | c_12
    · replace hm := if_t c_12 hm
      refine lv_tableIn (x := x_4) (tgt := 197) hx hb d_Machine_finishList_26 (by rw [c_12]; decide) (by rw [c_12]; decide) (by rw [c_12]; rfl) (by decide) ?_
      refine lv_aload_n hx hb d_Machine_finishList_197 rfl (lv_at hl 1 rfl) ?_
      refine lv_iload_n hx hb d_Machine_finishList_198 rfl (lv_at hl 0 rfl) ?_
      refine lv_aload_n hx hb d_Machine_finishList_199 rfl (lv_at hl 1 rfl) ?_
      refine va_get (D := (dC, dI)) (ci := 11) (v := .int (i 47)) (C := R_Machine) (T := F_Machine) (N := 9) hx hb htt iw_Machine hown hK hP 11 xo_11 rfl 8 (Nat.le_of_ble_eq_true rfl) (htt _ lk_Machine_111) (fun _ h9 => h9) xg_11_8 d_Machine_finishList_200 ?_
      obtain ⟨i_14, a_15, r_16, h_13, hm⟩ := ob_some hm
      have hFc := x_free hD hS hA
      refine xg_calli (va_runV (As := [.int x_1, .int (i 47)]) (rest := []) ⟨hx, hb, hml, hown, hts⟩ (x_Machine_leaveGiving l dC dI cI adK adV adA u o g s.heap.size n h_13) (cwV 2 hts (tw_GV tw_cons cw_Machine_leaveGiving lk_Machine_264 in_Machine_leaveGiving sel_Machine_leaveGiving ini_Machine) rfl rfl rfl ⟨rfl, hd_Machine_leaveGiving⟩ ⟨Nat.le_of_ble_eq_true rfl, Nat.le_of_ble_eq_true rfl⟩) (xpV hK hP hD hS hE hFc xo_11 rfl) rfl rfl hl.1 rfl (lv_room (Nat.le_of_ble_eq_true rfl)) d_Machine_finishList_203 ⟨show 0 + 0 ≤ mc by omega, show 0 + 0 ≤ ms by omega⟩) hS (fun q _ h => hFc q h) hFc (fun kc_17 ks_18 r9 u9 t9 H locs ekc eks ht hvm e9 hB hz1 hk1 hS => ?_)
      replace hkc : kc_17 + k2.1 = mc := by omega
      replace hks : ks_18 + k2.2 = ms := by omega
      clear ekc eks
      have e9 : r_16 = r9 := e9
      subst e9
      obtain ⟨hP, hD⟩ := x_aft hB ht hFc
      clear hFc hk1 hz1 hvm hB ht
      obtain ⟨e1, e2, e4, e5, e6, e3⟩ := re5 hm
      obtain ⟨hP, hD⟩ := x_eqg e1 e2 e4 hP hD
      refine W.widen (k := mc) (n := ms) (show kc_17 ≤ mc by omega) (show ks_18 ≤ ms by omega) ?_
      exact W.iret hx hb hr (fun t9 ht hW => ⟨⟨_, o, rfl, e3.symm, by rw [ht]; exact hP, hD⟩, hS.F ht⟩) hS.2.2 d_Machine_finishList_206
    replace hm := if_f c_12 hm
    rcases Classical.em (x_4 = 2) with c_19 | c_19
    · replace hm := if_t c_19 hm
      refine lv_tableIn (x := x_4) (tgt := 197) hx hb d_Machine_finishList_26 (by rw [c_19]; decide) (by rw [c_19]; decide) (by rw [c_19]; rfl) (by decide) ?_
      refine lv_aload_n hx hb d_Machine_finishList_197 rfl (lv_at hl 1 rfl) ?_
      refine lv_iload_n hx hb d_Machine_finishList_198 rfl (lv_at hl 0 rfl) ?_
      refine lv_aload_n hx hb d_Machine_finishList_199 rfl (lv_at hl 1 rfl) ?_
      refine va_get (D := (dC, dI)) (ci := 11) (v := .int (i 47)) (C := R_Machine) (T := F_Machine) (N := 9) hx hb htt iw_Machine hown hK hP 11 xo_11 rfl 8 (Nat.le_of_ble_eq_true rfl) (htt _ lk_Machine_111) (fun _ h9 => h9) xg_11_8 d_Machine_finishList_200 ?_
      obtain ⟨i_21, a_22, r_23, h_20, hm⟩ := ob_some hm
      have hFc := x_free hD hS hA
      refine xg_calli (va_runV (As := [.int x_1, .int (i 47)]) (rest := []) ⟨hx, hb, hml, hown, hts⟩ (x_Machine_leaveGiving l dC dI cI adK adV adA u o g s.heap.size n h_20) (cwV 2 hts (tw_GV tw_cons cw_Machine_leaveGiving lk_Machine_264 in_Machine_leaveGiving sel_Machine_leaveGiving ini_Machine) rfl rfl rfl ⟨rfl, hd_Machine_leaveGiving⟩ ⟨Nat.le_of_ble_eq_true rfl, Nat.le_of_ble_eq_true rfl⟩) (xpV hK hP hD hS hE hFc xo_11 rfl) rfl rfl hl.1 rfl (lv_room (Nat.le_of_ble_eq_true rfl)) d_Machine_finishList_203 ⟨show 0 + 0 ≤ mc by omega, show 0 + 0 ≤ ms by omega⟩) hS (fun q _ h => hFc q h) hFc (fun kc_24 ks_25 r9 u9 t9 H locs ekc eks ht hvm e9 hB hz1 hk1 hS => ?_)
      replace hkc : kc_24 + k2.1 = mc := by omega
      replace hks : ks_25 + k2.2 = ms := by omega
      clear ekc eks
      have e9 : r_23 = r9 := e9
      subst e9
      obtain ⟨hP, hD⟩ := x_aft hB ht hFc
      clear hFc hk1 hz1 hvm hB ht
      obtain ⟨e1, e2, e4, e5, e6, e3⟩ := re5 hm
      obtain ⟨hP, hD⟩ := x_eqg e1 e2 e4 hP hD
      refine W.widen (k := mc) (n := ms) (show kc_24 ≤ mc by omega) (show ks_25 ≤ ms by omega) ?_
      exact W.iret hx hb hr (fun t9 ht hW => ⟨⟨_, o, rfl, e3.symm, by rw [ht]; exact hP, hD⟩, hS.F ht⟩) hS.2.2 d_Machine_finishList_206
    replace hm := if_f c_19 hm
    rcases Classical.em (x_4 = 3) with c_26 | c_26
    · replace hm := if_t c_26 hm
      refine lv_tableIn (x := x_4) (tgt := 93) hx hb d_Machine_finishList_26 (by rw [c_26]; decide) (by rw [c_26]; decide) (by rw [c_26]; rfl) (by decide) ?_
      refine lv_aload_n hx hb d_Machine_finishList_93 rfl (lv_at hl 1 rfl) ?_
      refine va_get (D := (dC, dI)) (ci := 11) (v := .ref ((u 8))) (C := R_Machine) (T := F_Machine) (N := 9) hx hb htt iw_Machine hown hK hP 11 xo_11 rfl 1 (Nat.le_of_ble_eq_true rfl) (htt _ lk_Machine_18) (fun _ h9 => h9) xg_11_1 d_Machine_finishList_94 ?_
      refine va_get (D := (dC, dI)) (ci := 8) (v := .ref ((u 50))) (C := R_Line) (T := F_Line) (N := 18) hx hb htt iw_Line hown hK hP 8 xo_8 rfl 11 (Nat.le_of_ble_eq_true rfl) (htt _ lk_Machine_255) (fun _ h9 => h9) xg_8_11 d_Machine_finishList_97 ?_
      refine lv_iload_n hx hb d_Machine_finishList_100 rfl (lv_at hl 0 rfl) ?_
      obtain ⟨h_27, hm⟩ := ck_some hm
      refine va_iald hx hb hK hP 52 0 twA_40 rfl h_27 d_Machine_finishList_101 ?_
      refine lv_aload_n hx hb d_Machine_finishList_102 rfl (lv_at hl 1 rfl) ?_
      refine va_get (D := (dC, dI)) (ci := 11) (v := .ref ((u 8))) (C := R_Machine) (T := F_Machine) (N := 9) hx hb htt iw_Machine hown hK hP 11 xo_11 rfl 1 (Nat.le_of_ble_eq_true rfl) (htt _ lk_Machine_18) (fun _ h9 => h9) xg_11_1 d_Machine_finishList_103 ?_
      refine va_get (D := (dC, dI)) (ci := 8) (v := .ref ((u 51))) (C := R_Line) (T := F_Line) (N := 18) hx hb htt iw_Line hown hK hP 8 xo_8 rfl 12 (Nat.le_of_ble_eq_true rfl) (htt _ lk_Machine_258) (fun _ h9 => h9) xg_8_12 d_Machine_finishList_106 ?_
      refine lv_iload_n hx hb d_Machine_finishList_109 rfl (lv_at hl 0 rfl) ?_
      obtain ⟨h_28, hm⟩ := ck_some hm
      refine va_iald hx hb hK hP 53 0 twA_41 rfl h_28 d_Machine_finishList_110 ?_
      refine lv_icmp_ge (tgt := 121) hx hb d_Machine_finishList_111 (by decide) (fun c_29 => ?_) (fun c_29 => ?_)
      · replace hm := if_t c_29 hm
        refine lv_aload_n hx hb d_Machine_finishList_121 rfl (lv_at hl 1 rfl) ?_
        refine lv_iload_n hx hb d_Machine_finishList_122 rfl (lv_at hl 0 rfl) ?_
        refine lv_ldc (v := (-2147483648)) hx hb hown (htt _ lk_Machine_114) d_Machine_finishList_123 ?_
        obtain ⟨i_31, a_32, r_33, h_30, hm⟩ := ob_some hm
        have hFc := x_free hD hS hA
        refine xg_calli (va_runV (As := [.int x_1, .int ((-2147483648))]) (rest := []) ⟨hx, hb, hml, hown, hts⟩ (x_Machine_leaveGiving l dC dI cI adK adV adA u o g s.heap.size n h_30) (cwV 2 hts (tw_GV tw_cons cw_Machine_leaveGiving lk_Machine_264 in_Machine_leaveGiving sel_Machine_leaveGiving ini_Machine) rfl rfl rfl ⟨rfl, hd_Machine_leaveGiving⟩ ⟨Nat.le_of_ble_eq_true rfl, Nat.le_of_ble_eq_true rfl⟩) (xpV hK hP hD hS hE hFc xo_11 rfl) rfl rfl hl.1 rfl (lv_room (Nat.le_of_ble_eq_true rfl)) d_Machine_finishList_125 ⟨show 0 + 0 ≤ mc by omega, show 0 + 0 ≤ ms by omega⟩) hS (fun q _ h => hFc q h) hFc (fun kc_34 ks_35 r9 u9 t9 H locs ekc eks ht hvm e9 hB hz1 hk1 hS => ?_)
        replace hkc : kc_34 + k2.1 = mc := by omega
        replace hks : ks_35 + k2.2 = ms := by omega
        clear ekc eks
        have e9 : r_33 = r9 := e9
        subst e9
        obtain ⟨hP, hD⟩ := x_aft hB ht hFc
        clear hFc hk1 hz1 hvm hB ht
        obtain ⟨e1, e2, e4, e5, e6, e3⟩ := re5 hm
        obtain ⟨hP, hD⟩ := x_eqg e1 e2 e4 hP hD
        refine W.widen (k := mc) (n := ms) (show kc_34 ≤ mc by omega) (show ks_35 ≤ ms by omega) ?_
        exact W.iret hx hb hr (fun t9 ht hW => ⟨⟨_, o, rfl, e3.symm, by rw [ht]; exact hP, hD⟩, hS.F ht⟩) hS.2.2 d_Machine_finishList_128
      · replace hm := if_f c_29 hm
        refine lv_aload_n hx hb d_Machine_finishList_114 rfl (lv_at hl 1 rfl) ?_
        obtain ⟨i_37, a_38, r_39, h_36, hm⟩ := ob_some hm
        have hFc := x_free hD hS hA
        refine xg_calli (va_runV (As := []) (rest := []) ⟨hx, hb, hml, hown, hts⟩ (x_Machine_awaitTurn l dC dI cI adK adV adA u o g s.heap.size n h_36) (cwV 0 hts (tw_GV tw_cons cw_Machine_awaitTurn lk_Machine_261 in_Machine_awaitTurn sel_Machine_awaitTurn ini_Machine) rfl rfl rfl ⟨rfl, hd_Machine_awaitTurn⟩ ⟨Nat.le_of_ble_eq_true rfl, Nat.le_of_ble_eq_true rfl⟩) (xpV hK hP hD hS hE hFc xo_11 rfl) rfl rfl hl.1 rfl (lv_room (Nat.le_of_ble_eq_true rfl)) d_Machine_finishList_115 ⟨show 0 + 0 ≤ mc by omega, show 0 + 0 ≤ ms by omega⟩) hS (fun q _ h => hFc q h) hFc (fun kc_40 ks_41 r9 u9 t9 H locs ekc eks ht hvm e9 hB hz1 hk1 hS => ?_)
        replace hkc : kc_40 + k2.1 = mc := by omega
        replace hks : ks_41 + k2.2 = ms := by omega
        clear ekc eks
        have e9 : r_39 = r9 := e9
        subst e9
        obtain ⟨hP, hD⟩ := x_aft hB ht hFc
        clear hFc hk1 hz1 hvm hB ht
        refine lv_goto (tgt := 128) hx hb d_Machine_finishList_118 (by decide) ?_
        obtain ⟨e1, e2, e4, e5, e6, e3⟩ := re5 hm
        obtain ⟨hP, hD⟩ := x_eqg e1 e2 e4 hP hD
        refine W.widen (k := mc) (n := ms) (show kc_40 ≤ mc by omega) (show ks_41 ≤ ms by omega) ?_
        exact W.iret hx hb hr (fun t9 ht hW => ⟨⟨_, o, rfl, e3.symm, by rw [ht]; exact hP, hD⟩, hS.F ht⟩) hS.2.2 d_Machine_finishList_128
    replace hm := if_f c_26 hm
    rcases Classical.em (x_4 = 4) with c_42 | c_42
    · replace hm := if_t c_42 hm
      refine lv_tableIn (x := x_4) (tgt := 172) hx hb d_Machine_finishList_26 (by rw [c_42]; decide) (by rw [c_42]; decide) (by rw [c_42]; rfl) (by decide) ?_
      refine lv_aload_n hx hb d_Machine_finishList_172 rfl (lv_at hl 1 rfl) ?_
      obtain ⟨i_44, a_45, r_46, h_43, hm⟩ := ob_some hm
      have hFc := x_free hD hS hA
      refine xg_calli (va_runV (As := []) (rest := []) ⟨hx, hb, hml, hown, hts⟩ (x_Machine_awaitTurn l dC dI cI adK adV adA u o g s.heap.size n h_43) (cwV 0 hts (tw_GV tw_cons cw_Machine_awaitTurn lk_Machine_261 in_Machine_awaitTurn sel_Machine_awaitTurn ini_Machine) rfl rfl rfl ⟨rfl, hd_Machine_awaitTurn⟩ ⟨Nat.le_of_ble_eq_true rfl, Nat.le_of_ble_eq_true rfl⟩) (xpV hK hP hD hS hE hFc xo_11 rfl) rfl rfl hl.1 rfl (lv_room (Nat.le_of_ble_eq_true rfl)) d_Machine_finishList_173 ⟨show 0 + 0 ≤ mc by omega, show 0 + 0 ≤ ms by omega⟩) hS (fun q _ h => hFc q h) hFc (fun kc_47 ks_48 r9 u9 t9 H locs ekc eks ht hvm e9 hB hz1 hk1 hS => ?_)
      replace hkc : kc_47 + k2.1 = mc := by omega
      replace hks : ks_48 + k2.2 = ms := by omega
      clear ekc eks
      have e9 : r_46 = r9 := e9
      subst e9
      obtain ⟨hP, hD⟩ := x_aft hB ht hFc
      clear hFc hk1 hz1 hvm hB ht
      obtain ⟨e1, e2, e4, e5, e6, e3⟩ := re5 hm
      obtain ⟨hP, hD⟩ := x_eqg e1 e2 e4 hP hD
      refine W.widen (k := mc) (n := ms) (show kc_47 ≤ mc by omega) (show ks_48 ≤ ms by omega) ?_
      exact W.iret hx hb hr (fun t9 ht hW => ⟨⟨_, o, rfl, e3.symm, by rw [ht]; exact hP, hD⟩, hS.F ht⟩) hS.2.2 d_Machine_finishList_176
    replace hm := if_f c_42 hm
    rcases Classical.em (x_4 = 5) with c_49 | c_49
    · replace hm := if_t c_49 hm
      refine lv_tableIn (x := x_4) (tgt := 129) hx hb d_Machine_finishList_26 (by rw [c_49]; decide) (by rw [c_49]; decide) (by rw [c_49]; rfl) (by decide) ?_
      refine lv_aload_n hx hb d_Machine_finishList_129 rfl (lv_at hl 1 rfl) ?_
      refine va_get (D := (dC, dI)) (ci := 11) (v := .ref ((u 8))) (C := R_Machine) (T := F_Machine) (N := 9) hx hb htt iw_Machine hown hK hP 11 xo_11 rfl 1 (Nat.le_of_ble_eq_true rfl) (htt _ lk_Machine_18) (fun _ h9 => h9) xg_11_1 d_Machine_finishList_130 ?_
      refine va_get (D := (dC, dI)) (ci := 8) (v := .ref ((u 50))) (C := R_Line) (T := F_Line) (N := 18) hx hb htt iw_Line hown hK hP 8 xo_8 rfl 11 (Nat.le_of_ble_eq_true rfl) (htt _ lk_Machine_255) (fun _ h9 => h9) xg_8_11 d_Machine_finishList_133 ?_
      refine lv_iload_n hx hb d_Machine_finishList_136 rfl (lv_at hl 0 rfl) ?_
      obtain ⟨h_50, hm⟩ := ck_some hm
      refine va_iald hx hb hK hP 52 0 twA_40 rfl h_50 d_Machine_finishList_137 ?_
      refine lv_aload_n hx hb d_Machine_finishList_138 rfl (lv_at hl 1 rfl) ?_
      refine va_get (D := (dC, dI)) (ci := 11) (v := .ref ((u 1))) (C := R_Machine) (T := F_Machine) (N := 9) hx hb htt iw_Machine hown hK hP 11 xo_11 rfl 0 (Nat.le_of_ble_eq_true rfl) (htt _ lk_Machine_15) (fun _ h9 => h9) xg_11_0 d_Machine_finishList_139 ?_
      refine lv_aload_n hx hb d_Machine_finishList_142 rfl (lv_at hl 1 rfl) ?_
      refine va_get (D := (dC, dI)) (ci := 11) (v := .ref ((u 8))) (C := R_Machine) (T := F_Machine) (N := 9) hx hb htt iw_Machine hown hK hP 11 xo_11 rfl 1 (Nat.le_of_ble_eq_true rfl) (htt _ lk_Machine_18) (fun _ h9 => h9) xg_11_1 d_Machine_finishList_143 ?_
      refine va_get (D := (dC, dI)) (ci := 8) (v := .ref ((u 52))) (C := R_Line) (T := F_Line) (N := 18) hx hb htt iw_Line hown hK hP 8 xo_8 rfl 13 (Nat.le_of_ble_eq_true rfl) (htt _ lk_Machine_267) (fun _ h9 => h9) xg_8_13 d_Machine_finishList_146 ?_
      refine lv_iload_n hx hb d_Machine_finishList_149 rfl (lv_at hl 0 rfl) ?_
      obtain ⟨h_51, hm⟩ := ck_some hm
      refine va_iald hx hb hK hP 54 0 twA_42 rfl h_51 d_Machine_finishList_150 ?_
      obtain ⟨r_53, h_52, hm⟩ := ob0_some hm
      have hFc := x_free0 hS hA
      refine xg_calli (va_runV (As := [.int (a 42 x_1.toNatClampNeg)]) (rest := [.int (a 40 x_1.toNatClampNeg)]) ⟨hx, hb, hml, hown, hts⟩ (x_Heap_count l dC dI cI adK adV adA u o g s.heap.size n h_52) (cwV 1 hts (tw_GV tw_cons cw_Heap_count lk_Machine_221 in_Heap_count sel_Heap_count ini_Heap) rfl rfl rfl ⟨rfl, hd_Heap_count⟩ ⟨Nat.le_of_ble_eq_true rfl, Nat.le_of_ble_eq_true rfl⟩) (xpVr hK hP hS hE hFc xo_1 rfl) rfl rfl hl.1 rfl (lv_room (Nat.le_of_ble_eq_true rfl)) d_Machine_finishList_151 ⟨show 0 + 0 ≤ mc by omega, show 0 + 0 ≤ ms by omega⟩) hS (fun q _ h => hFc q h) hFc (fun kc_54 ks_55 r9 u9 t9 H locs ekc eks ht hvm e9 hB hz1 hk1 hS => ?_)
      replace hkc : kc_54 + k2.1 = mc := by omega
      replace hks : ks_55 + k2.2 = ms := by omega
      clear ekc eks
      have e9 : r_53 = r9 := e9
      subst e9
      replace hP := x_keep hP hk1
      clear hFc hk1 hz1 hvm hB ht
      refine lv_icmp_ge (tgt := 164) hx hb d_Machine_finishList_154 (by decide) (fun c_56 => ?_) (fun c_56 => ?_)
      · replace hm := if_t c_56 hm
        refine lv_aload_n hx hb d_Machine_finishList_164 rfl (lv_at hl 1 rfl) ?_
        refine lv_iload_n hx hb d_Machine_finishList_165 rfl (lv_at hl 0 rfl) ?_
        refine lv_ldc (v := (-2147483648)) hx hb hown (htt _ lk_Machine_114) d_Machine_finishList_166 ?_
        obtain ⟨i_58, a_59, r_60, h_57, hm⟩ := ob_some hm
        have hFc := x_free hD hS hA
        refine xg_calli (va_runV (As := [.int x_1, .int ((-2147483648))]) (rest := []) ⟨hx, hb, hml, hown, hts⟩ (x_Machine_leaveGiving l dC dI cI adK adV adA u o g H.size n h_57) (cwV 2 hts (tw_GV tw_cons cw_Machine_leaveGiving lk_Machine_264 in_Machine_leaveGiving sel_Machine_leaveGiving ini_Machine) rfl rfl rfl ⟨rfl, hd_Machine_leaveGiving⟩ ⟨Nat.le_of_ble_eq_true rfl, Nat.le_of_ble_eq_true rfl⟩) (xpV hK hP hD hS hE hFc xo_11 rfl) rfl rfl hl.1 rfl (lv_room (Nat.le_of_ble_eq_true rfl)) d_Machine_finishList_168 ⟨show kc_54 + 0 ≤ mc by omega, show ks_55 + 0 ≤ ms by omega⟩) hS (fun q _ h => hFc q h) hFc (fun kc_61 ks_62 r9 u9 t9 H locs ekc eks ht hvm e9 hB hz1 hk1 hS => ?_)
        replace hkc : kc_61 + k2.1 = mc := by omega
        replace hks : ks_62 + k2.2 = ms := by omega
        clear ekc eks
        have e9 : r_60 = r9 := e9
        subst e9
        obtain ⟨hP, hD⟩ := x_aft hB ht hFc
        clear hFc hk1 hz1 hvm hB ht
        obtain ⟨e1, e2, e4, e5, e6, e3⟩ := re5 hm
        obtain ⟨hP, hD⟩ := x_eqg e1 e2 e4 hP hD
        refine W.widen (k := mc) (n := ms) (show kc_61 ≤ mc by omega) (show ks_62 ≤ ms by omega) ?_
        exact W.iret hx hb hr (fun t9 ht hW => ⟨⟨_, o, rfl, e3.symm, by rw [ht]; exact hP, hD⟩, hS.F ht⟩) hS.2.2 d_Machine_finishList_171
      · replace hm := if_f c_56 hm
        refine lv_aload_n hx hb d_Machine_finishList_157 rfl (lv_at hl 1 rfl) ?_
        obtain ⟨i_64, a_65, r_66, h_63, hm⟩ := ob_some hm
        have hFc := x_free hD hS hA
        refine xg_calli (va_runV (As := []) (rest := []) ⟨hx, hb, hml, hown, hts⟩ (x_Machine_awaitTurn l dC dI cI adK adV adA u o g H.size n h_63) (cwV 0 hts (tw_GV tw_cons cw_Machine_awaitTurn lk_Machine_261 in_Machine_awaitTurn sel_Machine_awaitTurn ini_Machine) rfl rfl rfl ⟨rfl, hd_Machine_awaitTurn⟩ ⟨Nat.le_of_ble_eq_true rfl, Nat.le_of_ble_eq_true rfl⟩) (xpV hK hP hD hS hE hFc xo_11 rfl) rfl rfl hl.1 rfl (lv_room (Nat.le_of_ble_eq_true rfl)) d_Machine_finishList_158 ⟨show kc_54 + 0 ≤ mc by omega, show ks_55 + 0 ≤ ms by omega⟩) hS (fun q _ h => hFc q h) hFc (fun kc_67 ks_68 r9 u9 t9 H locs ekc eks ht hvm e9 hB hz1 hk1 hS => ?_)
        replace hkc : kc_67 + k2.1 = mc := by omega
        replace hks : ks_68 + k2.2 = ms := by omega
        clear ekc eks
        have e9 : r_66 = r9 := e9
        subst e9
        obtain ⟨hP, hD⟩ := x_aft hB ht hFc
        clear hFc hk1 hz1 hvm hB ht
        refine lv_goto (tgt := 171) hx hb d_Machine_finishList_161 (by decide) ?_
        obtain ⟨e1, e2, e4, e5, e6, e3⟩ := re5 hm
        obtain ⟨hP, hD⟩ := x_eqg e1 e2 e4 hP hD
        refine W.widen (k := mc) (n := ms) (show kc_67 ≤ mc by omega) (show ks_68 ≤ ms by omega) ?_
        exact W.iret hx hb hr (fun t9 ht hW => ⟨⟨_, o, rfl, e3.symm, by rw [ht]; exact hP, hD⟩, hS.F ht⟩) hS.2.2 d_Machine_finishList_171
    replace hm := if_f c_49 hm
    rcases Classical.em (x_4 = 6) with c_69 | c_69
    · replace hm := if_t c_69 hm
      refine lv_tableIn (x := x_4) (tgt := 197) hx hb d_Machine_finishList_26 (by rw [c_69]; decide) (by rw [c_69]; decide) (by rw [c_69]; rfl) (by decide) ?_
      refine lv_aload_n hx hb d_Machine_finishList_197 rfl (lv_at hl 1 rfl) ?_
      refine lv_iload_n hx hb d_Machine_finishList_198 rfl (lv_at hl 0 rfl) ?_
      refine lv_aload_n hx hb d_Machine_finishList_199 rfl (lv_at hl 1 rfl) ?_
      refine va_get (D := (dC, dI)) (ci := 11) (v := .int (i 47)) (C := R_Machine) (T := F_Machine) (N := 9) hx hb htt iw_Machine hown hK hP 11 xo_11 rfl 8 (Nat.le_of_ble_eq_true rfl) (htt _ lk_Machine_111) (fun _ h9 => h9) xg_11_8 d_Machine_finishList_200 ?_
      obtain ⟨i_71, a_72, r_73, h_70, hm⟩ := ob_some hm
      have hFc := x_free hD hS hA
      refine xg_calli (va_runV (As := [.int x_1, .int (i 47)]) (rest := []) ⟨hx, hb, hml, hown, hts⟩ (x_Machine_leaveGiving l dC dI cI adK adV adA u o g s.heap.size n h_70) (cwV 2 hts (tw_GV tw_cons cw_Machine_leaveGiving lk_Machine_264 in_Machine_leaveGiving sel_Machine_leaveGiving ini_Machine) rfl rfl rfl ⟨rfl, hd_Machine_leaveGiving⟩ ⟨Nat.le_of_ble_eq_true rfl, Nat.le_of_ble_eq_true rfl⟩) (xpV hK hP hD hS hE hFc xo_11 rfl) rfl rfl hl.1 rfl (lv_room (Nat.le_of_ble_eq_true rfl)) d_Machine_finishList_203 ⟨show 0 + 0 ≤ mc by omega, show 0 + 0 ≤ ms by omega⟩) hS (fun q _ h => hFc q h) hFc (fun kc_74 ks_75 r9 u9 t9 H locs ekc eks ht hvm e9 hB hz1 hk1 hS => ?_)
      replace hkc : kc_74 + k2.1 = mc := by omega
      replace hks : ks_75 + k2.2 = ms := by omega
      clear ekc eks
      have e9 : r_73 = r9 := e9
      subst e9
      obtain ⟨hP, hD⟩ := x_aft hB ht hFc
      clear hFc hk1 hz1 hvm hB ht
      obtain ⟨e1, e2, e4, e5, e6, e3⟩ := re5 hm
      obtain ⟨hP, hD⟩ := x_eqg e1 e2 e4 hP hD
      refine W.widen (k := mc) (n := ms) (show kc_74 ≤ mc by omega) (show ks_75 ≤ ms by omega) ?_
      exact W.iret hx hb hr (fun t9 ht hW => ⟨⟨_, o, rfl, e3.symm, by rw [ht]; exact hP, hD⟩, hS.F ht⟩) hS.2.2 d_Machine_finishList_206
    replace hm := if_f c_69 hm
    rcases Classical.em (x_4 = 7) with c_76 | c_76
    · replace hm := if_t c_76 hm
      refine lv_tableIn (x := x_4) (tgt := 197) hx hb d_Machine_finishList_26 (by rw [c_76]; decide) (by rw [c_76]; decide) (by rw [c_76]; rfl) (by decide) ?_
      refine lv_aload_n hx hb d_Machine_finishList_197 rfl (lv_at hl 1 rfl) ?_
      refine lv_iload_n hx hb d_Machine_finishList_198 rfl (lv_at hl 0 rfl) ?_
      refine lv_aload_n hx hb d_Machine_finishList_199 rfl (lv_at hl 1 rfl) ?_
      refine va_get (D := (dC, dI)) (ci := 11) (v := .int (i 47)) (C := R_Machine) (T := F_Machine) (N := 9) hx hb htt iw_Machine hown hK hP 11 xo_11 rfl 8 (Nat.le_of_ble_eq_true rfl) (htt _ lk_Machine_111) (fun _ h9 => h9) xg_11_8 d_Machine_finishList_200 ?_
      obtain ⟨i_78, a_79, r_80, h_77, hm⟩ := ob_some hm
      have hFc := x_free hD hS hA
      refine xg_calli (va_runV (As := [.int x_1, .int (i 47)]) (rest := []) ⟨hx, hb, hml, hown, hts⟩ (x_Machine_leaveGiving l dC dI cI adK adV adA u o g s.heap.size n h_77) (cwV 2 hts (tw_GV tw_cons cw_Machine_leaveGiving lk_Machine_264 in_Machine_leaveGiving sel_Machine_leaveGiving ini_Machine) rfl rfl rfl ⟨rfl, hd_Machine_leaveGiving⟩ ⟨Nat.le_of_ble_eq_true rfl, Nat.le_of_ble_eq_true rfl⟩) (xpV hK hP hD hS hE hFc xo_11 rfl) rfl rfl hl.1 rfl (lv_room (Nat.le_of_ble_eq_true rfl)) d_Machine_finishList_203 ⟨show 0 + 0 ≤ mc by omega, show 0 + 0 ≤ ms by omega⟩) hS (fun q _ h => hFc q h) hFc (fun kc_81 ks_82 r9 u9 t9 H locs ekc eks ht hvm e9 hB hz1 hk1 hS => ?_)
      replace hkc : kc_81 + k2.1 = mc := by omega
      replace hks : ks_82 + k2.2 = ms := by omega
      clear ekc eks
      have e9 : r_80 = r9 := e9
      subst e9
      obtain ⟨hP, hD⟩ := x_aft hB ht hFc
      clear hFc hk1 hz1 hvm hB ht
      obtain ⟨e1, e2, e4, e5, e6, e3⟩ := re5 hm
      obtain ⟨hP, hD⟩ := x_eqg e1 e2 e4 hP hD
      refine W.widen (k := mc) (n := ms) (show kc_81 ≤ mc by omega) (show ks_82 ≤ ms by omega) ?_
      exact W.iret hx hb hr (fun t9 ht hW => ⟨⟨_, o, rfl, e3.symm, by rw [ht]; exact hP, hD⟩, hS.F ht⟩) hS.2.2 d_Machine_finishList_206
    replace hm := if_f c_76 hm
    rcases Classical.em (x_4 = 8) with c_83 | c_83
    · replace hm := if_t c_83 hm
      refine lv_tableIn (x := x_4) (tgt := 197) hx hb d_Machine_finishList_26 (by rw [c_83]; decide) (by rw [c_83]; decide) (by rw [c_83]; rfl) (by decide) ?_
      refine lv_aload_n hx hb d_Machine_finishList_197 rfl (lv_at hl 1 rfl) ?_
      refine lv_iload_n hx hb d_Machine_finishList_198 rfl (lv_at hl 0 rfl) ?_
      refine lv_aload_n hx hb d_Machine_finishList_199 rfl (lv_at hl 1 rfl) ?_
      refine va_get (D := (dC, dI)) (ci := 11) (v := .int (i 47)) (C := R_Machine) (T := F_Machine) (N := 9) hx hb htt iw_Machine hown hK hP 11 xo_11 rfl 8 (Nat.le_of_ble_eq_true rfl) (htt _ lk_Machine_111) (fun _ h9 => h9) xg_11_8 d_Machine_finishList_200 ?_
      obtain ⟨i_85, a_86, r_87, h_84, hm⟩ := ob_some hm
      have hFc := x_free hD hS hA
      refine xg_calli (va_runV (As := [.int x_1, .int (i 47)]) (rest := []) ⟨hx, hb, hml, hown, hts⟩ (x_Machine_leaveGiving l dC dI cI adK adV adA u o g s.heap.size n h_84) (cwV 2 hts (tw_GV tw_cons cw_Machine_leaveGiving lk_Machine_264 in_Machine_leaveGiving sel_Machine_leaveGiving ini_Machine) rfl rfl rfl ⟨rfl, hd_Machine_leaveGiving⟩ ⟨Nat.le_of_ble_eq_true rfl, Nat.le_of_ble_eq_true rfl⟩) (xpV hK hP hD hS hE hFc xo_11 rfl) rfl rfl hl.1 rfl (lv_room (Nat.le_of_ble_eq_true rfl)) d_Machine_finishList_203 ⟨show 0 + 0 ≤ mc by omega, show 0 + 0 ≤ ms by omega⟩) hS (fun q _ h => hFc q h) hFc (fun kc_88 ks_89 r9 u9 t9 H locs ekc eks ht hvm e9 hB hz1 hk1 hS => ?_)
      replace hkc : kc_88 + k2.1 = mc := by omega
      replace hks : ks_89 + k2.2 = ms := by omega
      clear ekc eks
      have e9 : r_87 = r9 := e9
      subst e9
      obtain ⟨hP, hD⟩ := x_aft hB ht hFc
      clear hFc hk1 hz1 hvm hB ht
      obtain ⟨e1, e2, e4, e5, e6, e3⟩ := re5 hm
      obtain ⟨hP, hD⟩ := x_eqg e1 e2 e4 hP hD
      refine W.widen (k := mc) (n := ms) (show kc_88 ≤ mc by omega) (show ks_89 ≤ ms by omega) ?_
      exact W.iret hx hb hr (fun t9 ht hW => ⟨⟨_, o, rfl, e3.symm, by rw [ht]; exact hP, hD⟩, hS.F ht⟩) hS.2.2 d_Machine_finishList_206
    replace hm := if_f c_83 hm
    rcases Classical.em (x_4 = 9) with c_90 | c_90
    · replace hm := if_t c_90 hm
      refine lv_tableIn (x := x_4) (tgt := 177) hx hb d_Machine_finishList_26 (by rw [c_90]; decide) (by rw [c_90]; decide) (by rw [c_90]; rfl) (by decide) ?_
      refine lv_aload_n hx hb d_Machine_finishList_177 rfl (lv_at hl 1 rfl) ?_
      refine lv_iload_n hx hb d_Machine_finishList_178 rfl (lv_at hl 0 rfl) ?_
      refine lv_aload_n hx hb d_Machine_finishList_179 rfl (lv_at hl 1 rfl) ?_
      refine va_get (D := (dC, dI)) (ci := 11) (v := .int (i 47)) (C := R_Machine) (T := F_Machine) (N := 9) hx hb htt iw_Machine hown hK hP 11 xo_11 rfl 8 (Nat.le_of_ble_eq_true rfl) (htt _ lk_Machine_111) (fun _ h9 => h9) xg_11_8 d_Machine_finishList_180 ?_
      obtain ⟨i_92, a_93, r_94, h_91, hm⟩ := ob_some hm
      have hFc := x_free hD hS hA
      refine xg_calli (va_runV (As := [.int x_1, .int (i 47)]) (rest := []) ⟨hx, hb, hml, hown, hts⟩ (x_Machine_finishTest l dC dI cI adK adV adA u o g s.heap.size n h_91) (cwV 2 hts (tw_GV tw_cons cw_Machine_finishTest lk_Machine_270 in_Machine_finishTest sel_Machine_finishTest ini_Machine) rfl rfl rfl ⟨rfl, hd_Machine_finishTest⟩ ⟨Nat.le_of_ble_eq_true rfl, Nat.le_of_ble_eq_true rfl⟩) (xpV hK hP hD hS hE hFc xo_11 rfl) rfl rfl hl.1 rfl (lv_room (Nat.le_of_ble_eq_true rfl)) d_Machine_finishList_183 ⟨show 0 + 0 ≤ mc by omega, show 0 + 0 ≤ ms by omega⟩) hS (fun q _ h => hFc q h) hFc (fun kc_95 ks_96 r9 u9 t9 H locs ekc eks ht hvm e9 hB hz1 hk1 hS => ?_)
      replace hkc : kc_95 + k2.1 = mc := by omega
      replace hks : ks_96 + k2.2 = ms := by omega
      clear ekc eks
      have e9 : r_94 = r9 := e9
      subst e9
      obtain ⟨hP, hD⟩ := x_aft hB ht hFc
      clear hFc hk1 hz1 hvm hB ht
      obtain ⟨e1, e2, e4, e5, e6, e3⟩ := re5 hm
      obtain ⟨hP, hD⟩ := x_eqg e1 e2 e4 hP hD
      refine W.widen (k := mc) (n := ms) (show kc_95 ≤ mc by omega) (show ks_96 ≤ ms by omega) ?_
      exact W.iret hx hb hr (fun t9 ht hW => ⟨⟨_, o, rfl, e3.symm, by rw [ht]; exact hP, hD⟩, hS.F ht⟩) hS.2.2 d_Machine_finishList_186
    replace hm := if_f c_90 hm
    rcases Classical.em (x_4 = 10) with c_97 | c_97
    · replace hm := if_t c_97 hm
      refine lv_tableIn (x := x_4) (tgt := 187) hx hb d_Machine_finishList_26 (by rw [c_97]; decide) (by rw [c_97]; decide) (by rw [c_97]; rfl) (by decide) ?_
      refine lv_aload_n hx hb d_Machine_finishList_187 rfl (lv_at hl 1 rfl) ?_
      refine lv_iload_n hx hb d_Machine_finishList_188 rfl (lv_at hl 0 rfl) ?_
      refine lv_aload_n hx hb d_Machine_finishList_189 rfl (lv_at hl 1 rfl) ?_
      refine va_get (D := (dC, dI)) (ci := 11) (v := .int (i 47)) (C := R_Machine) (T := F_Machine) (N := 9) hx hb htt iw_Machine hown hK hP 11 xo_11 rfl 8 (Nat.le_of_ble_eq_true rfl) (htt _ lk_Machine_111) (fun _ h9 => h9) xg_11_8 d_Machine_finishList_190 ?_
      obtain ⟨i_99, a_100, g_101, k_102, r_103, k_104, h_98, hm, e7, e8⟩ := obG_some hm
      have hFc := x_free hD hS hA
      refine xg_calli (va_runV (As := [.int x_1, .int (i 47)]) (rest := []) ⟨hx, hb, hml, hown, hts⟩ (x_Machine_finishMapped l dC dI cI adK adV adA u o g s.heap.size n h_98) (cwV 2 hts (tw_GV tw_cons cw_Machine_finishMapped lk_Machine_273 in_Machine_finishMapped sel_Machine_finishMapped ini_Machine) rfl rfl rfl ⟨rfl, hd_Machine_finishMapped⟩ ⟨Nat.le_of_ble_eq_true rfl, Nat.le_of_ble_eq_true rfl⟩) (xpV hK hP hD hS hE hFc xo_11 rfl) rfl rfl hl.1 rfl (lv_room (Nat.le_of_ble_eq_true rfl)) d_Machine_finishList_193 ⟨show 0 + k_102.1 ≤ mc by omega, show 0 + k_102.2 ≤ ms by omega⟩) hS (fun q _ h => hFc q h) hFc (fun kc_106 ks_107 r9 o_105 t9 H locs ekc eks ht hvm e9 hB hz1 hk1 hS => ?_)
      replace hkc : kc_106 + k_104.1 = mc := by omega
      replace hks : ks_107 + k_104.2 = ms := by omega
      clear e7 e8
      clear ekc eks
      have e9 : r_103 = r9 := e9
      subst e9
      obtain ⟨hP, hD⟩ := x_aftg hB ht hFc
      clear hFc hk1 hz1 hvm hB ht
      obtain ⟨e1, e2, e4, e5, e6, e3⟩ := re5 hm
      obtain ⟨hP, hD⟩ := x_eqg e1 e2 e4 hP hD
      refine W.widen (k := mc) (n := ms) (show kc_106 ≤ mc by omega) (show ks_107 ≤ ms by omega) ?_
      exact W.iret hx hb hr (fun t9 ht hW => ⟨⟨_, o_105, rfl, e3.symm, by rw [ht]; exact hP, hD⟩, hS.F ht⟩) hS.2.2 d_Machine_finishList_196
    replace hm := if_f c_97 hm
    refine lv_tableOut (x := x_4) (tgt := 197) hx hb d_Machine_finishList_26 (by have q0 := lv_neT c_5 (show (0 : Int32).toInt = 0 from by decide); have q1 := lv_neT c_12 (show (1 : Int32).toInt = 1 from by decide); have q2 := lv_neT c_19 (show (2 : Int32).toInt = 2 from by decide); have q3 := lv_neT c_26 (show (3 : Int32).toInt = 3 from by decide); have q4 := lv_neT c_42 (show (4 : Int32).toInt = 4 from by decide); have q5 := lv_neT c_49 (show (5 : Int32).toInt = 5 from by decide); have q6 := lv_neT c_69 (show (6 : Int32).toInt = 6 from by decide); have q7 := lv_neT c_76 (show (7 : Int32).toInt = 7 from by decide); have q8 := lv_neT c_83 (show (8 : Int32).toInt = 8 from by decide); have q9 := lv_neT c_90 (show (9 : Int32).toInt = 9 from by decide); have q10 := lv_neT c_97 (show (10 : Int32).toInt = 10 from by decide); omega) (by decide) ?_
    refine lv_aload_n hx hb d_Machine_finishList_197 rfl (lv_at hl 1 rfl) ?_
    refine lv_iload_n hx hb d_Machine_finishList_198 rfl (lv_at hl 0 rfl) ?_
    refine lv_aload_n hx hb d_Machine_finishList_199 rfl (lv_at hl 1 rfl) ?_
    refine va_get (D := (dC, dI)) (ci := 11) (v := .int (i 47)) (C := R_Machine) (T := F_Machine) (N := 9) hx hb htt iw_Machine hown hK hP 11 xo_11 rfl 8 (Nat.le_of_ble_eq_true rfl) (htt _ lk_Machine_111) (fun _ h9 => h9) xg_11_8 d_Machine_finishList_200 ?_
    obtain ⟨i_109, a_110, r_111, h_108, hm⟩ := ob_some hm
    have hFc := x_free hD hS hA
    refine xg_calli (va_runV (As := [.int x_1, .int (i 47)]) (rest := []) ⟨hx, hb, hml, hown, hts⟩ (x_Machine_leaveGiving l dC dI cI adK adV adA u o g s.heap.size n h_108) (cwV 2 hts (tw_GV tw_cons cw_Machine_leaveGiving lk_Machine_264 in_Machine_leaveGiving sel_Machine_leaveGiving ini_Machine) rfl rfl rfl ⟨rfl, hd_Machine_leaveGiving⟩ ⟨Nat.le_of_ble_eq_true rfl, Nat.le_of_ble_eq_true rfl⟩) (xpV hK hP hD hS hE hFc xo_11 rfl) rfl rfl hl.1 rfl (lv_room (Nat.le_of_ble_eq_true rfl)) d_Machine_finishList_203 ⟨show 0 + 0 ≤ mc by omega, show 0 + 0 ≤ ms by omega⟩) hS (fun q _ h => hFc q h) hFc (fun kc_112 ks_113 r9 u9 t9 H locs ekc eks ht hvm e9 hB hz1 hk1 hS => ?_)
    replace hkc : kc_112 + k2.1 = mc := by omega
    replace hks : ks_113 + k2.2 = ms := by omega
    clear ekc eks
    have e9 : r_111 = r9 := e9
    subst e9
    obtain ⟨hP, hD⟩ := x_aft hB ht hFc
    clear hFc hk1 hz1 hvm hB ht
    obtain ⟨e1, e2, e4, e5, e6, e3⟩ := re5 hm
    obtain ⟨hP, hD⟩ := x_eqg e1 e2 e4 hP hD
    refine W.widen (k := mc) (n := ms) (show kc_112 ≤ mc by omega) (show ks_113 ≤ ms by omega) ?_
    exact W.iret hx hb hr (fun t9 ht hW => ⟨⟨_, o, rfl, e3.symm, by rw [ht]; exact hP, hD⟩, hS.F ht⟩) hS.2.2 d_Machine_finishList_206
  · replace hm := if_f c_2 hm
    refine lv_ldc (v := (-2147483644)) hx hb hown (htt _ lk_Machine_160) d_Machine_finishList_14 ?_
    obtain ⟨e1, e2, e4, e5, e6, e3⟩ := re5 hm
    obtain ⟨hP, hD⟩ := x_eqg e1 e2 e4 hP hD
    refine W.widen (k := mc) (n := ms) (show 0 ≤ mc by omega) (show 0 ≤ ms by omega) ?_
    exact W.iret hx hb hr (fun t9 ht hW => ⟨⟨_, o, rfl, e3.symm, by rw [ht]; exact hP, hD⟩, hS.F ht⟩) hS.2.2 d_Machine_finishList_16

def m_Machine_take (n : Nat) (g : Nat → Nat) (i : Nat → Int32) (a : Nat → Nat → Int32) (v1 : Int32) : Option ((Nat → Int32) × (Nat → Nat → Int32) × Int32) := if v1 = ((-2147483584 : Int32)) then some (i, a, (0 : Int32)) else ob1 (upd i 46 1 : Nat → Int32) (fun i_2 => ob1 (upd i_2 47 v1 : Nat → Int32) (fun i_3 => if v1 ≤ ((-2147483648 : Int32)) then some (i_3, a, (0 : Int32)) else if ((-2147483584 : Int32)) ≤ v1 then some (i_3, a, (0 : Int32)) else ob (m_Machine_fail n g i_3 a (v1 - ((-2147483648)))) (fun i_7 a_8 r_9 => some (i_7, a_8, (0 : Int32)))))
set_option maxHeartbeats 4000000 in
set_option maxRecDepth 100000 in
theorem x_Machine_take (l : Launch) (dC : Nat → ClassId) (dI : Nat → Nat → Nat) (cI : ClassId) (adK adV adA u o g : Nat → Nat) (sz : Nat) (n : Nat) {i : Nat → Int32} {a : Nat → Nat → Int32} {v1 : Int32} {i2 : Nat → Int32} {a2 : Nat → Nat → Int32} {r2 : Int32} (hm : m_Machine_take n g i a v1 = some (i2, a2, r2)) : Met l y_Machine_take w_Machine_take ({ frames := 4, cells := 0, slots := 0, locals := 87 } : Room) (va_Pc [.ref ((u 11)), .int v1] (xE dC dI cI adK adV adA u o g i a sz)) (va_Qv xV (xB dC dI cI u o g i2 a2 (va_A (TW cI u o i a g) sz)) (va_A (TW cI u o i a g) sz)) 0 0 ((va_A (TW cI u o i a g) sz)) := by
  refine Met.ofW (cc := b_Machine_take) (maxL := 2) (ret := none) (by decide) rfl ?_
  intro p e s m args below meth c s₁ B hml hv
  obtain ⟨rfl, hsz, hP, hK, hE, hD0⟩ := hv
  have hx := B.exec
  have hb := B.bytes
  have hr := B.returns
  have hts := atoms_spec (ws := w_Machine_take) B.pre
  have htt : ∀ w ∈ tw_T, w.before _ s = true := fun w h => hts w (List.mem_cons_of_mem _ h)
  have hown : s.vm.findClass R_Machine = some m.cls := findClass_of_methodNamed B.named
  have hlocks := B.notSynchronized
  subst hsz
  have hD := hD0.self (sz := s.heap.size)
  generalize hAe : (va_A (TW cI u o i a g) s.heap.size) = A at hD hE ⊢
  have hA : ∀ q : Nat, s.heap.size ≤ q → A q := fun q h => by rw [← hAe]; exact Or.inr h
  have hS : va_S A s.heap s.heap [] := va_S.rf
  have hl := lv_entry ([.ref ((u 11)), .int v1]) (n := 2) (Nat.le_of_ble_eq_true rfl)
  rw [lg_entry_eq]
  generalize (lg_sl ([.ref ((u 11)), .int v1]) ++ List.replicate (2 - (lg_sl ([.ref ((u 11)), .int v1])).length) Slot.unset).toArray = ls at hl ⊢
  have hl : lv_has ls 2 [(0, .ref ((u 11))), (1, .int v1)] := hl
  rw [m_Machine_take] at hm
  refine lv_iload_n hx hb d_Machine_take_0 rfl (lv_at hl 1 rfl) ?_
  refine lv_ldc (v := (-2147483584)) hx hb hown (htt _ lk_Machine_110) d_Machine_take_1 ?_
  refine lv_icmp_ne (tgt := 7) hx hb d_Machine_take_3 (by decide) (fun c_1 => ?_) (fun c_1 => ?_)
  · replace hm := if_f c_1 hm
    refine lv_aload_n hx hb d_Machine_take_7 rfl (lv_at hl 0 rfl) ?_
    refine lv_iconst (v := 1) hx hb d_Machine_take_8 (by decide) ?_
    refine va_put (D := (dC, dI)) (ci := 11) (v := .int 1) (ty := .int) (C := R_Machine) (T := F_Machine) (N := 9) hx hb htt iw_Machine t_Machine t_Machine_ok n_Machine hown hK hP hD hS 11 xo_11 rfl 7 (Nat.le_of_ble_eq_true rfl) (htt _ lk_Machine_62) (fun _ h9 => h9) rfl (by decide +kernel) rfl rfl xl_11_7 d_Machine_take_9 (fun H locs hP hD hS => ?_)
    obtain ⟨i_2, ei_2⟩ : ∃ y9 : Nat → Int32, y9 = upd i 46 1 := ⟨_, rfl⟩
    replace hm := ob1_at ei_2 hm
    obtain ⟨hP, hD⟩ := xw_46 ei_2 hP hD
    refine lv_aload_n hx hb d_Machine_take_12 rfl (lv_at hl 0 rfl) ?_
    refine lv_iload_n hx hb d_Machine_take_13 rfl (lv_at hl 1 rfl) ?_
    refine va_put (D := (dC, dI)) (ci := 11) (v := .int v1) (ty := .int) (C := R_Machine) (T := F_Machine) (N := 9) hx hb htt iw_Machine t_Machine t_Machine_ok n_Machine hown hK hP hD hS 11 xo_11 rfl 8 (Nat.le_of_ble_eq_true rfl) (htt _ lk_Machine_111) (fun _ h9 => h9) rfl (by decide +kernel) rfl rfl xl_11_8 d_Machine_take_14 (fun H locs hP hD hS => ?_)
    obtain ⟨i_3, ei_3⟩ : ∃ y9 : Nat → Int32, y9 = upd i_2 47 v1 := ⟨_, rfl⟩
    replace hm := ob1_at ei_3 hm
    obtain ⟨hP, hD⟩ := xw_47 ei_3 hP hD
    refine lv_iload_n hx hb d_Machine_take_17 rfl (lv_at hl 1 rfl) ?_
    refine lv_ldc (v := (-2147483648)) hx hb hown (htt _ lk_Machine_114) d_Machine_take_18 ?_
    refine lv_icmp_le (tgt := 37) hx hb d_Machine_take_20 (by decide) (fun c_4 => ?_) (fun c_4 => ?_)
    · replace hm := if_t c_4 hm
      obtain ⟨e1i, e1a, e3⟩ := re3 hm
      obtain ⟨hP, hD⟩ := x_eq e1i e1a hP hD
      exact W.vret hx hb hr (fun t9 ht hW => ⟨⟨(), rfl, trivial, by rw [ht]; exact hP, hD⟩, hS.F ht⟩) hS.2.2 d_Machine_take_37
    · replace hm := if_f c_4 hm
      refine lv_iload_n hx hb d_Machine_take_23 rfl (lv_at hl 1 rfl) ?_
      refine lv_ldc (v := (-2147483584)) hx hb hown (htt _ lk_Machine_110) d_Machine_take_24 ?_
      refine lv_icmp_ge (tgt := 37) hx hb d_Machine_take_26 (by decide) (fun c_5 => ?_) (fun c_5 => ?_)
      · replace hm := if_t c_5 hm
        obtain ⟨e1i, e1a, e3⟩ := re3 hm
        obtain ⟨hP, hD⟩ := x_eq e1i e1a hP hD
        exact W.vret hx hb hr (fun t9 ht hW => ⟨⟨(), rfl, trivial, by rw [ht]; exact hP, hD⟩, hS.F ht⟩) hS.2.2 d_Machine_take_37
      · replace hm := if_f c_5 hm
        refine lv_aload_n hx hb d_Machine_take_29 rfl (lv_at hl 0 rfl) ?_
        refine lv_iload_n hx hb d_Machine_take_30 rfl (lv_at hl 1 rfl) ?_
        refine lv_ldc (v := (-2147483648)) hx hb hown (htt _ lk_Machine_114) d_Machine_take_31 ?_
        refine lv_isub hx hb d_Machine_take_33 ?_
        obtain ⟨i_7, a_8, r_9, h_6, hm⟩ := ob_some hm
        have hFc := x_free hD hS hA
        refine va_callv (va_runV (As := [.int (v1 - ((-2147483648)))]) (rest := []) ⟨hx, hb, hml, hown, hts⟩ (x_Machine_fail l dC dI cI adK adV adA u o g H.size n h_6) (cwV 1 hts (tw_GV tw_cons cw_Machine_fail lk_Machine_115 in_Machine_fail sel_Machine_fail ini_Machine) rfl rfl rfl ⟨rfl, hd_Machine_fail⟩ ⟨Nat.le_of_ble_eq_true rfl, Nat.le_of_ble_eq_true rfl⟩) (xpV hK hP hD hS hE hFc xo_11 rfl) rfl rfl hl.1 rfl (lv_room (Nat.le_of_ble_eq_true rfl)) d_Machine_take_34 ⟨Nat.le_of_ble_eq_true rfl, Nat.le_of_ble_eq_true rfl⟩) hS (fun q _ h => hFc q h) hFc (fun u9 t9 H locs ht hvm e9 hB hz1 hk1 hS => ?_)
        obtain ⟨hP, hD⟩ := x_aft hB ht hFc
        clear hFc hk1 hz1 hvm hB ht
        obtain ⟨e1i, e1a, e3⟩ := re3 hm
        obtain ⟨hP, hD⟩ := x_eq e1i e1a hP hD
        exact W.vret hx hb hr (fun t9 ht hW => ⟨⟨(), rfl, trivial, by rw [ht]; exact hP, hD⟩, hS.F ht⟩) hS.2.2 d_Machine_take_37
  · replace hm := if_t c_1 hm
    obtain ⟨e1i, e1a, e3⟩ := re3 hm
    obtain ⟨hP, hD⟩ := x_eq e1i e1a hP hD
    exact W.vret hx hb hr (fun t9 ht hW => ⟨⟨(), rfl, trivial, by rw [ht]; exact hP, hD⟩, hS.F ht⟩) hS.2.2 d_Machine_take_6
