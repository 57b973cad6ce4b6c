theorem hd_Turtles_exists : y_Turtles_exists.cls ≠ "java/lang/invoke/MethodHandle" ∧ y_Turtles_exists.cls ≠ "java/lang/invoke/VarHandle" ∧ (parseMethodDescriptor y_Turtles_exists.desc).map (fun d => d.parameters.length) = some 1 := by decide +kernel
theorem hd_Heap_number : y_Heap_number.cls ≠ "java/lang/invoke/MethodHandle" ∧ y_Heap_number.cls ≠ "java/lang/invoke/VarHandle" ∧ (parseMethodDescriptor y_Heap_number.desc).map (fun d => d.parameters.length) = some 1 := by decide +kernel
theorem d_Deeds_random_0 : decode b_Deeds_random 0 = .ok (.iload_n 1, 1) := by decide +kernel
theorem d_Deeds_random_1 : decode b_Deeds_random 1 = .ok (.iconst 1, 1) := by decide +kernel
theorem d_Deeds_random_2 : decode b_Deeds_random 2 = .ok (.if_icmp .ge 6, 3) := by decide +kernel
theorem d_Deeds_random_5 : decode b_Deeds_random 5 = .ok (.ldc 146, 2) := by decide +kernel
theorem d_Deeds_random_7 : decode b_Deeds_random 7 = .ok (.ireturn, 1) := by decide +kernel
theorem d_Deeds_random_8 : decode b_Deeds_random 8 = .ok (.aload_n 0, 1) := by decide +kernel
theorem d_Deeds_random_9 : decode b_Deeds_random 9 = .ok (.getfield 42, 3) := by decide +kernel
theorem d_Deeds_random_12 : decode b_Deeds_random 12 = .ok (.istore_n 2, 1) := by decide +kernel
theorem d_Deeds_random_13 : decode b_Deeds_random 13 = .ok (.iload_n 2, 1) := by decide +kernel
theorem d_Deeds_random_14 : decode b_Deeds_random 14 = .ok (.iload_n 2, 1) := by decide +kernel
theorem d_Deeds_random_15 : decode b_Deeds_random 15 = .ok (.bipush 13, 2) := by decide +kernel
theorem d_Deeds_random_17 : decode b_Deeds_random 17 = .ok (.ishl, 1) := by decide +kernel
theorem d_Deeds_random_18 : decode b_Deeds_random 18 = .ok (.ixor, 1) := by decide +kernel
theorem d_Deeds_random_19 : decode b_Deeds_random 19 = .ok (.istore_n 2, 1) := by decide +kernel
theorem d_Deeds_random_20 : decode b_Deeds_random 20 = .ok (.iload_n 2, 1) := by decide +kernel
theorem d_Deeds_random_21 : decode b_Deeds_random 21 = .ok (.iload_n 2, 1) := by decide +kernel
theorem d_Deeds_random_22 : decode b_Deeds_random 22 = .ok (.bipush 17, 2) := by decide +kernel
theorem d_Deeds_random_24 : decode b_Deeds_random 24 = .ok (.iushr, 1) := by decide +kernel
theorem d_Deeds_random_25 : decode b_Deeds_random 25 = .ok (.ixor, 1) := by decide +kernel
theorem d_Deeds_random_26 : decode b_Deeds_random 26 = .ok (.istore_n 2, 1) := by decide +kernel
theorem d_Deeds_random_27 : decode b_Deeds_random 27 = .ok (.iload_n 2, 1) := by decide +kernel
theorem d_Deeds_random_28 : decode b_Deeds_random 28 = .ok (.iload_n 2, 1) := by decide +kernel
theorem d_Deeds_random_29 : decode b_Deeds_random 29 = .ok (.iconst 5, 1) := by decide +kernel
theorem d_Deeds_random_30 : decode b_Deeds_random 30 = .ok (.ishl, 1) := by decide +kernel
theorem d_Deeds_random_31 : decode b_Deeds_random 31 = .ok (.ixor, 1) := by decide +kernel
theorem d_Deeds_random_32 : decode b_Deeds_random 32 = .ok (.istore_n 2, 1) := by decide +kernel
theorem d_Deeds_random_33 : decode b_Deeds_random 33 = .ok (.aload_n 0, 1) := by decide +kernel
theorem d_Deeds_random_34 : decode b_Deeds_random 34 = .ok (.iload_n 2, 1) := by decide +kernel
theorem d_Deeds_random_35 : decode b_Deeds_random 35 = .ok (.putfield 42, 3) := by decide +kernel
theorem d_Deeds_random_38 : decode b_Deeds_random 38 = .ok (.iload_n 2, 1) := by decide +kernel
theorem d_Deeds_random_39 : decode b_Deeds_random 39 = .ok (.ldc 169, 2) := by decide +kernel
theorem d_Deeds_random_41 : decode b_Deeds_random 41 = .ok (.iand, 1) := by decide +kernel
theorem d_Deeds_random_42 : decode b_Deeds_random 42 = .ok (.iload_n 1, 1) := by decide +kernel
theorem d_Deeds_random_43 : decode b_Deeds_random 43 = .ok (.irem, 1) := by decide +kernel
theorem d_Deeds_random_44 : decode b_Deeds_random 44 = .ok (.invokestatic 127, 3) := by decide +kernel
theorem d_Deeds_random_47 : decode b_Deeds_random 47 = .ok (.ireturn, 1) := by decide +kernel
theorem lk_Deeds_169 : Cond.constant "TurtleWorld$Deeds" 169 2147483647 ∈ tw_T := tw_i6 161 (by decide +kernel) (by decide +kernel)
theorem d_Deeds_isTrue_0 : decode b_Deeds_isTrue 0 = .ok (.aload_n 0, 1) := by decide +kernel
theorem d_Deeds_isTrue_1 : decode b_Deeds_isTrue 1 = .ok (.getfield 15, 3) := by decide +kernel
theorem d_Deeds_isTrue_4 : decode b_Deeds_isTrue 4 = .ok (.aload_n 0, 1) := by decide +kernel
theorem d_Deeds_isTrue_5 : decode b_Deeds_isTrue 5 = .ok (.getfield 22, 3) := by decide +kernel
theorem d_Deeds_isTrue_8 : decode b_Deeds_isTrue 8 = .ok (.iload_n 1, 1) := by decide +kernel
theorem d_Deeds_isTrue_9 : decode b_Deeds_isTrue 9 = .ok (.invokevirtual 62, 3) := by decide +kernel
theorem d_Deeds_isTrue_12 : decode b_Deeds_isTrue 12 = .ok (.aload_n 0, 1) := by decide +kernel
theorem d_Deeds_isTrue_13 : decode b_Deeds_isTrue 13 = .ok (.getfield 15, 3) := by decide +kernel
theorem d_Deeds_isTrue_16 : decode b_Deeds_isTrue 16 = .ok (.getfield 81, 3) := by decide +kernel
theorem d_Deeds_isTrue_19 : decode b_Deeds_isTrue 19 = .ok (.invokevirtual 84, 3) := by decide +kernel
theorem d_Deeds_isTrue_22 : decode b_Deeds_isTrue 22 = .ok (.ireturn, 1) := by decide +kernel
theorem lk_Deeds_62 : Cond.methodLink "TurtleWorld$Deeds" 62 ⟨"TurtleWorld$Waiting", "input", "(I)I"⟩ ∈ tw_T := tw_i5 239 (by decide +kernel) (by decide +kernel)
theorem hd_Waiting_input : y_Waiting_input.cls ≠ "java/lang/invoke/MethodHandle" ∧ y_Waiting_input.cls ≠ "java/lang/invoke/VarHandle" ∧ (parseMethodDescriptor y_Waiting_input.desc).map (fun d => d.parameters.length) = some 1 := by decide +kernel
theorem in_Waiting_input : Cond.instanceMethod ⟨"TurtleWorld$Waiting", "input", "(I)I"⟩ ∈ tw_T := tw_i5 222 (by decide +kernel) (by decide +kernel)
theorem sel_Waiting_input : Cond.selects "TurtleWorld$Waiting" ⟨"TurtleWorld$Waiting", "input", "(I)I"⟩ ⟨"TurtleWorld$Waiting", "input", "(I)I"⟩ ∈ tw_T := tw_i5 223 (by decide +kernel) (by decide +kernel)
theorem hd_Heap_size : y_Heap_size.cls ≠ "java/lang/invoke/MethodHandle" ∧ y_Heap_size.cls ≠ "java/lang/invoke/VarHandle" ∧ (parseMethodDescriptor y_Heap_size.desc).map (fun d => d.parameters.length) = some 1 := by decide +kernel
theorem d_Output_addPlain_0 : decode b_Output_addPlain 0 = .ok (.iload_n 1, 1) := by decide +kernel
theorem d_Output_addPlain_1 : decode b_Output_addPlain 1 = .ok (.invokestatic 54, 3) := by decide +kernel
theorem d_Output_addPlain_4 : decode b_Output_addPlain 4 = .ok (.ifCond .eq 29, 3) := by decide +kernel
theorem d_Output_addPlain_7 : decode b_Output_addPlain 7 = .ok (.aload_n 0, 1) := by decide +kernel
theorem d_Output_addPlain_8 : decode b_Output_addPlain 8 = .ok (.dup, 1) := by decide +kernel
theorem d_Output_addPlain_9 : decode b_Output_addPlain 9 = .ok (.getfield 31, 3) := by decide +kernel
theorem d_Output_addPlain_12 : decode b_Output_addPlain 12 = .ok (.aload_n 0, 1) := by decide +kernel
theorem d_Output_addPlain_13 : decode b_Output_addPlain 13 = .ok (.getfield 27, 3) := by decide +kernel
theorem d_Output_addPlain_16 : decode b_Output_addPlain 16 = .ok (.iload_n 1, 1) := by decide +kernel
theorem d_Output_addPlain_17 : decode b_Output_addPlain 17 = .ok (.aload_n 0, 1) := by decide +kernel
theorem d_Output_addPlain_18 : decode b_Output_addPlain 18 = .ok (.getfield 18, 3) := by decide +kernel
theorem d_Output_addPlain_21 : decode b_Output_addPlain 21 = .ok (.aload_n 0, 1) := by decide +kernel
theorem d_Output_addPlain_22 : decode b_Output_addPlain 22 = .ok (.getfield 31, 3) := by decide +kernel
theorem d_Output_addPlain_25 : decode b_Output_addPlain 25 = .ok (.invokevirtual 57, 3) := by decide +kernel
theorem d_Output_addPlain_28 : decode b_Output_addPlain 28 = .ok (.iadd, 1) := by decide +kernel
theorem d_Output_addPlain_29 : decode b_Output_addPlain 29 = .ok (.putfield 31, 3) := by decide +kernel
theorem d_Output_addPlain_32 : decode b_Output_addPlain 32 = .ok (.return_, 1) := by decide +kernel
theorem d_Output_addPlain_33 : decode b_Output_addPlain 33 = .ok (.iload_n 1, 1) := by decide +kernel
theorem d_Output_addPlain_34 : decode b_Output_addPlain 34 = .ok (.iconst 1, 1) := by decide +kernel
theorem d_Output_addPlain_35 : decode b_Output_addPlain 35 = .ok (.ishr, 1) := by decide +kernel
theorem d_Output_addPlain_36 : decode b_Output_addPlain 36 = .ok (.istore_n 2, 1) := by decide +kernel
theorem d_Output_addPlain_37 : decode b_Output_addPlain 37 = .ok (.iload_n 2, 1) := by decide +kernel
theorem d_Output_addPlain_38 : decode b_Output_addPlain 38 = .ok (.ifCond .ge 12, 3) := by decide +kernel
theorem d_Output_addPlain_41 : decode b_Output_addPlain 41 = .ok (.aload_n 0, 1) := by decide +kernel
theorem d_Output_addPlain_42 : decode b_Output_addPlain 42 = .ok (.bipush 45, 2) := by decide +kernel
theorem d_Output_addPlain_44 : decode b_Output_addPlain 44 = .ok (.invokevirtual 45, 3) := by decide +kernel
theorem d_Output_addPlain_47 : decode b_Output_addPlain 47 = .ok (.iload_n 2, 1) := by decide +kernel
theorem d_Output_addPlain_48 : decode b_Output_addPlain 48 = .ok (.ineg, 1) := by decide +kernel
theorem d_Output_addPlain_49 : decode b_Output_addPlain 49 = .ok (.istore_n 2, 1) := by decide +kernel
theorem d_Output_addPlain_50 : decode b_Output_addPlain 50 = .ok (.iconst 1, 1) := by decide +kernel
theorem d_Output_addPlain_51 : decode b_Output_addPlain 51 = .ok (.istore_n 3, 1) := by decide +kernel
theorem d_Output_addPlain_52 : decode b_Output_addPlain 52 = .ok (.iconst 0, 1) := by decide +kernel
theorem d_Output_addPlain_53 : decode b_Output_addPlain 53 = .ok (.istore 4, 2) := by decide +kernel
theorem d_Output_addPlain_55 : decode b_Output_addPlain 55 = .ok (.iload 4, 2) := by decide +kernel
theorem d_Output_addPlain_57 : decode b_Output_addPlain 57 = .ok (.bipush 9, 2) := by decide +kernel
theorem d_Output_addPlain_59 : decode b_Output_addPlain 59 = .ok (.if_icmp .ge 22, 3) := by decide +kernel
theorem d_Output_addPlain_62 : decode b_Output_addPlain 62 = .ok (.iload_n 3, 1) := by decide +kernel
theorem d_Output_addPlain_63 : decode b_Output_addPlain 63 = .ok (.iload_n 2, 1) := by decide +kernel
theorem d_Output_addPlain_64 : decode b_Output_addPlain 64 = .ok (.bipush 10, 2) := by decide +kernel
theorem d_Output_addPlain_66 : decode b_Output_addPlain 66 = .ok (.idiv, 1) := by decide +kernel
theorem d_Output_addPlain_67 : decode b_Output_addPlain 67 = .ok (.if_icmp .gt 14, 3) := by decide +kernel
theorem d_Output_addPlain_70 : decode b_Output_addPlain 70 = .ok (.iload_n 3, 1) := by decide +kernel
theorem d_Output_addPlain_71 : decode b_Output_addPlain 71 = .ok (.bipush 10, 2) := by decide +kernel
theorem d_Output_addPlain_73 : decode b_Output_addPlain 73 = .ok (.imul, 1) := by decide +kernel
theorem d_Output_addPlain_74 : decode b_Output_addPlain 74 = .ok (.istore_n 3, 1) := by decide +kernel
theorem d_Output_addPlain_75 : decode b_Output_addPlain 75 = .ok (.iinc 4 1, 3) := by decide +kernel
theorem d_Output_addPlain_78 : decode b_Output_addPlain 78 = .ok (.goto (-23), 3) := by decide +kernel
theorem d_Output_addPlain_81 : decode b_Output_addPlain 81 = .ok (.iconst 0, 1) := by decide +kernel
theorem d_Output_addPlain_82 : decode b_Output_addPlain 82 = .ok (.istore 4, 2) := by decide +kernel
theorem d_Output_addPlain_84 : decode b_Output_addPlain 84 = .ok (.iload 4, 2) := by decide +kernel
theorem d_Output_addPlain_86 : decode b_Output_addPlain 86 = .ok (.bipush 10, 2) := by decide +kernel
theorem d_Output_addPlain_88 : decode b_Output_addPlain 88 = .ok (.if_icmp .ge 31, 3) := by decide +kernel
theorem d_Output_addPlain_91 : decode b_Output_addPlain 91 = .ok (.iload_n 3, 1) := by decide +kernel
theorem d_Output_addPlain_92 : decode b_Output_addPlain 92 = .ok (.ifCond .le 27, 3) := by decide +kernel
theorem d_Output_addPlain_95 : decode b_Output_addPlain 95 = .ok (.aload_n 0, 1) := by decide +kernel
theorem d_Output_addPlain_96 : decode b_Output_addPlain 96 = .ok (.bipush 48, 2) := by decide +kernel
theorem d_Output_addPlain_98 : decode b_Output_addPlain 98 = .ok (.iload_n 2, 1) := by decide +kernel
theorem d_Output_addPlain_99 : decode b_Output_addPlain 99 = .ok (.iload_n 3, 1) := by decide +kernel
theorem d_Output_addPlain_100 : decode b_Output_addPlain 100 = .ok (.idiv, 1) := by decide +kernel
theorem d_Output_addPlain_101 : decode b_Output_addPlain 101 = .ok (.bipush 10, 2) := by decide +kernel
theorem d_Output_addPlain_103 : decode b_Output_addPlain 103 = .ok (.irem, 1) := by decide +kernel
theorem d_Output_addPlain_104 : decode b_Output_addPlain 104 = .ok (.iadd, 1) := by decide +kernel
theorem d_Output_addPlain_105 : decode b_Output_addPlain 105 = .ok (.invokevirtual 45, 3) := by decide +kernel
theorem d_Output_addPlain_108 : decode b_Output_addPlain 108 = .ok (.iload_n 3, 1) := by decide +kernel
theorem d_Output_addPlain_109 : decode b_Output_addPlain 109 = .ok (.bipush 10, 2) := by decide +kernel
theorem d_Output_addPlain_111 : decode b_Output_addPlain 111 = .ok (.idiv, 1) := by decide +kernel
theorem d_Output_addPlain_112 : decode b_Output_addPlain 112 = .ok (.istore_n 3, 1) := by decide +kernel
theorem d_Output_addPlain_113 : decode b_Output_addPlain 113 = .ok (.iinc 4 1, 3) := by decide +kernel
theorem d_Output_addPlain_116 : decode b_Output_addPlain 116 = .ok (.goto (-32), 3) := by decide +kernel
theorem d_Output_addPlain_119 : decode b_Output_addPlain 119 = .ok (.return_, 1) := by decide +kernel
theorem lk_Output_54 : Cond.methodLink "TurtleWorld$Output" 54 ⟨"TurtleWorld$Heap", "isWord", "(I)Z"⟩ ∈ tw_T := tw_i6 232 (by decide +kernel) (by decide +kernel)
theorem lk_Output_45 : Cond.methodLink "TurtleWorld$Output" 45 ⟨"TurtleWorld$Output", "add", "(I)V"⟩ ∈ tw_T := tw_i6 237 (by decide +kernel) (by decide +kernel)
theorem hd_Output_add : y_Output_add.cls ≠ "java/lang/invoke/MethodHandle" ∧ y_Output_add.cls ≠ "java/lang/invoke/VarHandle" ∧ (parseMethodDescriptor y_Output_add.desc).map (fun d => d.parameters.length) = some 1 := by decide +kernel
theorem in_Output_add : Cond.instanceMethod ⟨"TurtleWorld$Output", "add", "(I)V"⟩ ∈ tw_T := tw_i6 238 (by decide +kernel) (by decide +kernel)
theorem sel_Output_add : Cond.selects "TurtleWorld$Output" ⟨"TurtleWorld$Output", "add", "(I)V"⟩ ⟨"TurtleWorld$Output", "add", "(I)V"⟩ ∈ tw_T := tw_i6 239 (by decide +kernel) (by decide +kernel)
theorem lk_Output_57 : Cond.methodLink "TurtleWorld$Output" 57 ⟨"TurtleWorld$Heap", "copyLetters", "(I[II)I"⟩ ∈ tw_T := tw_i6 233 (by decide +kernel) (by decide +kernel)
theorem d_Heap_copyLetters_0 : decode b_Heap_copyLetters 0 = .ok (.iload_n 1, 1) := by decide +kernel
theorem d_Heap_copyLetters_1 : decode b_Heap_copyLetters 1 = .ok (.iconst 2, 1) := by decide +kernel
theorem d_Heap_copyLetters_2 : decode b_Heap_copyLetters 2 = .ok (.ishr, 1) := by decide +kernel
theorem d_Heap_copyLetters_3 : decode b_Heap_copyLetters 3 = .ok (.istore 4, 2) := by decide +kernel
theorem d_Heap_copyLetters_5 : decode b_Heap_copyLetters 5 = .ok (.iconst 0, 1) := by decide +kernel
theorem d_Heap_copyLetters_6 : decode b_Heap_copyLetters 6 = .ok (.istore 5, 2) := by decide +kernel
theorem d_Heap_copyLetters_8 : decode b_Heap_copyLetters 8 = .ok (.iload 4, 2) := by decide +kernel
theorem d_Heap_copyLetters_10 : decode b_Heap_copyLetters 10 = .ok (.ifCond .le 7, 3) := by decide +kernel
theorem d_Heap_copyLetters_13 : decode b_Heap_copyLetters 13 = .ok (.iload_n 3, 1) := by decide +kernel
theorem d_Heap_copyLetters_14 : decode b_Heap_copyLetters 14 = .ok (.ifCond .ge 5, 3) := by decide +kernel
theorem d_Heap_copyLetters_17 : decode b_Heap_copyLetters 17 = .ok (.iconst 0, 1) := by decide +kernel
theorem d_Heap_copyLetters_18 : decode b_Heap_copyLetters 18 = .ok (.ireturn, 1) := by decide +kernel
theorem d_Heap_copyLetters_19 : decode b_Heap_copyLetters 19 = .ok (.iload 4, 2) := by decide +kernel
theorem d_Heap_copyLetters_21 : decode b_Heap_copyLetters 21 = .ok (.istore 6, 2) := by decide +kernel
theorem d_Heap_copyLetters_23 : decode b_Heap_copyLetters 23 = .ok (.iload 6, 2) := by decide +kernel
theorem d_Heap_copyLetters_25 : decode b_Heap_copyLetters 25 = .ok (.aload_n 0, 1) := by decide +kernel
theorem d_Heap_copyLetters_26 : decode b_Heap_copyLetters 26 = .ok (.getfield 11, 3) := by decide +kernel
theorem d_Heap_copyLetters_29 : decode b_Heap_copyLetters 29 = .ok (.arraylength, 1) := by decide +kernel
theorem d_Heap_copyLetters_30 : decode b_Heap_copyLetters 30 = .ok (.if_icmp .ge 44, 3) := by decide +kernel
theorem d_Heap_copyLetters_33 : decode b_Heap_copyLetters 33 = .ok (.aload_n 0, 1) := by decide +kernel
theorem d_Heap_copyLetters_34 : decode b_Heap_copyLetters 34 = .ok (.getfield 11, 3) := by decide +kernel
theorem d_Heap_copyLetters_37 : decode b_Heap_copyLetters 37 = .ok (.iload 6, 2) := by decide +kernel
theorem d_Heap_copyLetters_39 : decode b_Heap_copyLetters 39 = .ok (.iaload, 1) := by decide +kernel
theorem d_Heap_copyLetters_40 : decode b_Heap_copyLetters 40 = .ok (.ifCond .eq 34, 3) := by decide +kernel
theorem d_Heap_copyLetters_43 : decode b_Heap_copyLetters 43 = .ok (.iload_n 3, 1) := by decide +kernel
theorem d_Heap_copyLetters_44 : decode b_Heap_copyLetters 44 = .ok (.iload 5, 2) := by decide +kernel
theorem d_Heap_copyLetters_46 : decode b_Heap_copyLetters 46 = .ok (.iadd, 1) := by decide +kernel
theorem d_Heap_copyLetters_47 : decode b_Heap_copyLetters 47 = .ok (.aload_n 2, 1) := by decide +kernel
theorem d_Heap_copyLetters_48 : decode b_Heap_copyLetters 48 = .ok (.arraylength, 1) := by decide +kernel
theorem d_Heap_copyLetters_49 : decode b_Heap_copyLetters 49 = .ok (.if_icmp .ge 25, 3) := by decide +kernel
theorem d_Heap_copyLetters_52 : decode b_Heap_copyLetters 52 = .ok (.aload_n 2, 1) := by decide +kernel
theorem d_Heap_copyLetters_53 : decode b_Heap_copyLetters 53 = .ok (.iload_n 3, 1) := by decide +kernel
theorem d_Heap_copyLetters_54 : decode b_Heap_copyLetters 54 = .ok (.iload 5, 2) := by decide +kernel
theorem d_Heap_copyLetters_56 : decode b_Heap_copyLetters 56 = .ok (.iadd, 1) := by decide +kernel
theorem d_Heap_copyLetters_57 : decode b_Heap_copyLetters 57 = .ok (.aload_n 0, 1) := by decide +kernel
theorem d_Heap_copyLetters_58 : decode b_Heap_copyLetters 58 = .ok (.getfield 11, 3) := by decide +kernel
theorem d_Heap_copyLetters_61 : decode b_Heap_copyLetters 61 = .ok (.iload 6, 2) := by decide +kernel
theorem d_Heap_copyLetters_63 : decode b_Heap_copyLetters 63 = .ok (.iaload, 1) := by decide +kernel
theorem d_Heap_copyLetters_64 : decode b_Heap_copyLetters 64 = .ok (.iastore, 1) := by decide +kernel
theorem d_Heap_copyLetters_65 : decode b_Heap_copyLetters 65 = .ok (.iinc 5 1, 3) := by decide +kernel
theorem d_Heap_copyLetters_68 : decode b_Heap_copyLetters 68 = .ok (.iinc 6 1, 3) := by decide +kernel
theorem d_Heap_copyLetters_71 : decode b_Heap_copyLetters 71 = .ok (.goto (-48), 3) := by decide +kernel
theorem d_Heap_copyLetters_74 : decode b_Heap_copyLetters 74 = .ok (.iload 5, 2) := by decide +kernel
theorem d_Heap_copyLetters_76 : decode b_Heap_copyLetters 76 = .ok (.ireturn, 1) := by decide +kernel
theorem hd_Heap_copyLetters : y_Heap_copyLetters.cls ≠ "java/lang/invoke/MethodHandle" ∧ y_Heap_copyLetters.cls ≠ "java/lang/invoke/VarHandle" ∧ (parseMethodDescriptor y_Heap_copyLetters.desc).map (fun d => d.parameters.length) = some 3 := by decide +kernel
theorem in_Heap_copyLetters : Cond.instanceMethod ⟨"TurtleWorld$Heap", "copyLetters", "(I[II)I"⟩ ∈ tw_T := tw_i6 234 (by decide +kernel) (by decide +kernel)
theorem sel_Heap_copyLetters : Cond.selects "TurtleWorld$Heap" ⟨"TurtleWorld$Heap", "copyLetters", "(I[II)I"⟩ ⟨"TurtleWorld$Heap", "copyLetters", "(I[II)I"⟩ ∈ tw_T := tw_i6 235 (by decide +kernel) (by decide +kernel)
theorem d_Machine_open_0 : decode b_Machine_open 0 = .ok (.aload_n 0, 1) := by decide +kernel
theorem d_Machine_open_1 : decode b_Machine_open 1 = .ok (.getfield 18, 3) := by decide +kernel
theorem d_Machine_open_4 : decode b_Machine_open 4 = .ok (.iload_n 1, 1) := by decide +kernel
theorem d_Machine_open_5 : decode b_Machine_open 5 = .ok (.iload_n 2, 1) := by decide +kernel
theorem d_Machine_open_6 : decode b_Machine_open 6 = .ok (.aload_n 0, 1) := by decide +kernel
theorem d_Machine_open_7 : decode b_Machine_open 7 = .ok (.getfield 22, 3) := by decide +kernel
theorem d_Machine_open_10 : decode b_Machine_open 10 = .ok (.invokevirtual 58, 3) := by decide +kernel
theorem d_Machine_open_13 : decode b_Machine_open 13 = .ok (.ifCond .ne 7, 3) := by decide +kernel
theorem d_Machine_open_16 : decode b_Machine_open 16 = .ok (.ldc_w 340, 3) := by decide +kernel
theorem d_Machine_open_19 : decode b_Machine_open 19 = .ok (.ireturn, 1) := by decide +kernel
theorem d_Machine_open_20 : decode b_Machine_open 20 = .ok (.aload_n 0, 1) := by decide +kernel
theorem d_Machine_open_21 : decode b_Machine_open 21 = .ok (.getfield 18, 3) := by decide +kernel
theorem d_Machine_open_24 : decode b_Machine_open 24 = .ok (.iload_n 3, 1) := by decide +kernel
theorem d_Machine_open_25 : decode b_Machine_open 25 = .ok (.iload 4, 2) := by decide +kernel
theorem d_Machine_open_27 : decode b_Machine_open 27 = .ok (.invokevirtual 341, 3) := by decide +kernel
theorem d_Machine_open_30 : decode b_Machine_open 30 = .ok (.ldc 110, 2) := by decide +kernel
theorem d_Machine_open_32 : decode b_Machine_open 32 = .ok (.ireturn, 1) := by decide +kernel
theorem hd_Line_open : y_Line_open.cls ≠ "java/lang/invoke/MethodHandle" ∧ y_Line_open.cls ≠ "java/lang/invoke/VarHandle" ∧ (parseMethodDescriptor y_Line_open.desc).map (fun d => d.parameters.length) = some 3 := by decide +kernel
theorem lk_Machine_341 : Cond.methodLink "TurtleWorld$Machine" 341 ⟨"TurtleWorld$Line", "note", "(II)V"⟩ ∈ tw_T := tw_i5 217 (by decide +kernel) (by decide +kernel)
theorem hd_Line_note : y_Line_note.cls ≠ "java/lang/invoke/MethodHandle" ∧ y_Line_note.cls ≠ "java/lang/invoke/VarHandle" ∧ (parseMethodDescriptor y_Line_note.desc).map (fun d => d.parameters.length) = some 2 := by decide +kernel
theorem in_Line_note : Cond.instanceMethod ⟨"TurtleWorld$Line", "note", "(II)V"⟩ ∈ tw_T := tw_i5 218 (by decide +kernel) (by decide +kernel)
theorem sel_Line_note : Cond.selects "TurtleWorld$Line" ⟨"TurtleWorld$Line", "note", "(II)V"⟩ ⟨"TurtleWorld$Line", "note", "(II)V"⟩ ∈ tw_T := tw_i5 219 (by decide +kernel) (by decide +kernel)
theorem lk_Machine_340 : Cond.constant "TurtleWorld$Machine" 340 (-2147483642) ∈ tw_T := tw_i5 216 (by decide +kernel) (by decide +kernel)
theorem hd_Line_newest : y_Line_newest.cls ≠ "java/lang/invoke/MethodHandle" ∧ y_Line_newest.cls ≠ "java/lang/invoke/VarHandle" ∧ (parseMethodDescriptor y_Line_newest.desc).map (fun d => d.parameters.length) = some 2 := by decide +kernel
theorem d_World_takeBack_0 : decode b_World_takeBack 0 = .ok (.aload_n 0, 1) := by decide +kernel
theorem d_World_takeBack_1 : decode b_World_takeBack 1 = .ok (.getfield 26, 3) := by decide +kernel
theorem d_World_takeBack_4 : decode b_World_takeBack 4 = .ok (.invokevirtual 278, 3) := by decide +kernel
theorem d_World_takeBack_7 : decode b_World_takeBack 7 = .ok (.aload_n 0, 1) := by decide +kernel
theorem d_World_takeBack_8 : decode b_World_takeBack 8 = .ok (.getfield 33, 3) := by decide +kernel
theorem d_World_takeBack_11 : decode b_World_takeBack 11 = .ok (.invokevirtual 279, 3) := by decide +kernel
theorem d_World_takeBack_14 : decode b_World_takeBack 14 = .ok (.aload_n 0, 1) := by decide +kernel
theorem d_World_takeBack_15 : decode b_World_takeBack 15 = .ok (.getfield 40, 3) := by decide +kernel
theorem d_World_takeBack_18 : decode b_World_takeBack 18 = .ok (.invokevirtual 280, 3) := by decide +kernel
theorem d_World_takeBack_21 : decode b_World_takeBack 21 = .ok (.aload_n 0, 1) := by decide +kernel
theorem d_World_takeBack_22 : decode b_World_takeBack 22 = .ok (.getfield 47, 3) := by decide +kernel
theorem d_World_takeBack_25 : decode b_World_takeBack 25 = .ok (.invokevirtual 281, 3) := by decide +kernel
theorem d_World_takeBack_28 : decode b_World_takeBack 28 = .ok (.aload_n 0, 1) := by decide +kernel
theorem d_World_takeBack_29 : decode b_World_takeBack 29 = .ok (.getfield 75, 3) := by decide +kernel
theorem d_World_takeBack_32 : decode b_World_takeBack 32 = .ok (.aload_n 0, 1) := by decide +kernel
theorem d_World_takeBack_33 : decode b_World_takeBack 33 = .ok (.getfield 269, 3) := by decide +kernel
theorem d_World_takeBack_36 : decode b_World_takeBack 36 = .ok (.putfield 180, 3) := by decide +kernel
theorem d_World_takeBack_39 : decode b_World_takeBack 39 = .ok (.aload_n 0, 1) := by decide +kernel
theorem d_World_takeBack_40 : decode b_World_takeBack 40 = .ok (.getfield 17, 3) := by decide +kernel
theorem d_World_takeBack_43 : decode b_World_takeBack 43 = .ok (.aload_n 0, 1) := by decide +kernel
theorem d_World_takeBack_44 : decode b_World_takeBack 44 = .ok (.getfield 275, 3) := by decide +kernel
theorem d_World_takeBack_47 : decode b_World_takeBack 47 = .ok (.putfield 272, 3) := by decide +kernel
theorem d_World_takeBack_50 : decode b_World_takeBack 50 = .ok (.return_, 1) := by decide +kernel
theorem lk_World_278 : Cond.methodLink "TurtleWorld" 278 ⟨"TurtleWorld$Names", "takeBack", "()V"⟩ ∈ tw_T := tw_i7 122 (by decide +kernel) (by decide +kernel)
theorem hd_Names_takeBack : y_Names_takeBack.cls ≠ "java/lang/invoke/MethodHandle" ∧ y_Names_takeBack.cls ≠ "java/lang/invoke/VarHandle" ∧ (parseMethodDescriptor y_Names_takeBack.desc).map (fun d => d.parameters.length) = some 0 := by decide +kernel
theorem in_Names_takeBack : Cond.instanceMethod ⟨"TurtleWorld$Names", "takeBack", "()V"⟩ ∈ tw_T := tw_i7 123 (by decide +kernel) (by decide +kernel)
theorem sel_Names_takeBack : Cond.selects "TurtleWorld$Names" ⟨"TurtleWorld$Names", "takeBack", "()V"⟩ ⟨"TurtleWorld$Names", "takeBack", "()V"⟩ ∈ tw_T := tw_i7 124 (by decide +kernel) (by decide +kernel)
theorem lk_World_279 : Cond.methodLink "TurtleWorld" 279 ⟨"TurtleWorld$Procedures", "takeBack", "()V"⟩ ∈ tw_T := tw_i7 126 (by decide +kernel) (by decide +kernel)
theorem hd_Procedures_takeBack : y_Procedures_takeBack.cls ≠ "java/lang/invoke/MethodHandle" ∧ y_Procedures_takeBack.cls ≠ "java/lang/invoke/VarHandle" ∧ (parseMethodDescriptor y_Procedures_takeBack.desc).map (fun d => d.parameters.length) = some 0 := by decide +kernel
theorem in_Procedures_takeBack : Cond.instanceMethod ⟨"TurtleWorld$Procedures", "takeBack", "()V"⟩ ∈ tw_T := tw_i7 127 (by decide +kernel) (by decide +kernel)
theorem sel_Procedures_takeBack : Cond.selects "TurtleWorld$Procedures" ⟨"TurtleWorld$Procedures", "takeBack", "()V"⟩ ⟨"TurtleWorld$Procedures", "takeBack", "()V"⟩ ∈ tw_T := tw_i7 128 (by decide +kernel) (by decide +kernel)
theorem lk_World_280 : Cond.methodLink "TurtleWorld" 280 ⟨"TurtleWorld$Turtles", "takeBack", "()V"⟩ ∈ tw_T := tw_i7 130 (by decide +kernel) (by decide +kernel)
theorem hd_Turtles_takeBack : y_Turtles_takeBack.cls ≠ "java/lang/invoke/MethodHandle" ∧ y_Turtles_takeBack.cls ≠ "java/lang/invoke/VarHandle" ∧ (parseMethodDescriptor y_Turtles_takeBack.desc).map (fun d => d.parameters.length) = some 0 := by decide +kernel
theorem in_Turtles_takeBack : Cond.instanceMethod ⟨"TurtleWorld$Turtles", "takeBack", "()V"⟩ ∈ tw_T := tw_i7 131 (by decide +kernel) (by decide +kernel)
theorem sel_Turtles_takeBack : Cond.selects "TurtleWorld$Turtles" ⟨"TurtleWorld$Turtles", "takeBack", "()V"⟩ ⟨"TurtleWorld$Turtles", "takeBack", "()V"⟩ ∈ tw_T := tw_i7 132 (by decide +kernel) (by decide +kernel)
theorem lk_World_281 : Cond.methodLink "TurtleWorld" 281 ⟨"TurtleWorld$Output", "takeBack", "()V"⟩ ∈ tw_T := tw_i7 134 (by decide +kernel) (by decide +kernel)
theorem hd_Output_takeBack : y_Output_takeBack.cls ≠ "java/lang/invoke/MethodHandle" ∧ y_Output_takeBack.cls ≠ "java/lang/invoke/VarHandle" ∧ (parseMethodDescriptor y_Output_takeBack.desc).map (fun d => d.parameters.length) = some 0 := by decide +kernel
theorem in_Output_takeBack : Cond.instanceMethod ⟨"TurtleWorld$Output", "takeBack", "()V"⟩ ∈ tw_T := tw_i7 135 (by decide +kernel) (by decide +kernel)
theorem sel_Output_takeBack : Cond.selects "TurtleWorld$Output" ⟨"TurtleWorld$Output", "takeBack", "()V"⟩ ⟨"TurtleWorld$Output", "takeBack", "()V"⟩ ∈ tw_T := tw_i7 136 (by decide +kernel) (by decide +kernel)
theorem hd_Machine_waitingCount : y_Machine_waitingCount.cls ≠ "java/lang/invoke/MethodHandle" ∧ y_Machine_waitingCount.cls ≠ "java/lang/invoke/VarHandle" ∧ (parseMethodDescriptor y_Machine_waitingCount.desc).map (fun d => d.parameters.length) = some 0 := by decide +kernel
theorem hd_Turtles_onScreen : y_Turtles_onScreen.cls ≠ "java/lang/invoke/MethodHandle" ∧ y_Turtles_onScreen.cls ≠ "java/lang/invoke/VarHandle" ∧ (parseMethodDescriptor y_Turtles_onScreen.desc).map (fun d => d.parameters.length) = some 2 := by decide +kernel
theorem hd_Turtles_dotAt : y_Turtles_dotAt.cls ≠ "java/lang/invoke/MethodHandle" ∧ y_Turtles_dotAt.cls ≠ "java/lang/invoke/VarHandle" ∧ (parseMethodDescriptor y_Turtles_dotAt.desc).map (fun d => d.parameters.length) = some 2 := by decide +kernel
theorem hd_Output_latest : y_Output_latest.cls ≠ "java/lang/invoke/MethodHandle" ∧ y_Output_latest.cls ≠ "java/lang/invoke/VarHandle" ∧ (parseMethodDescriptor y_Output_latest.desc).map (fun d => d.parameters.length) = some 1 := by decide +kernel
theorem hd_Line_callAt : y_Line_callAt.cls ≠ "java/lang/invoke/MethodHandle" ∧ y_Line_callAt.cls ≠ "java/lang/invoke/VarHandle" ∧ (parseMethodDescriptor y_Line_callAt.desc).map (fun d => d.parameters.length) = some 1 := by decide +kernel
theorem hd_Names_countValues : y_Names_countValues.cls ≠ "java/lang/invoke/MethodHandle" ∧ y_Names_countValues.cls ≠ "java/lang/invoke/VarHandle" ∧ (parseMethodDescriptor y_Names_countValues.desc).map (fun d => d.parameters.length) = some 2 := by decide +kernel
theorem hd_Turtles_sumUp : y_Turtles_sumUp.cls ≠ "java/lang/invoke/MethodHandle" ∧ y_Turtles_sumUp.cls ≠ "java/lang/invoke/VarHandle" ∧ (parseMethodDescriptor y_Turtles_sumUp.desc).map (fun d => d.parameters.length) = some 0 := by decide +kernel
theorem d_Reader_tokenEnd_0 : decode b_Reader_tokenEnd 0 = .ok (.iload_n 1, 1) := by decide +kernel
theorem d_Reader_tokenEnd_1 : decode b_Reader_tokenEnd 1 = .ok (.iconst 1, 1) := by decide +kernel
theorem d_Reader_tokenEnd_2 : decode b_Reader_tokenEnd 2 = .ok (.iadd, 1) := by decide +kernel
theorem d_Reader_tokenEnd_3 : decode b_Reader_tokenEnd 3 = .ok (.istore_n 2, 1) := by decide +kernel
theorem d_Reader_tokenEnd_4 : decode b_Reader_tokenEnd 4 = .ok (.aload_n 0, 1) := by decide +kernel
theorem d_Reader_tokenEnd_5 : decode b_Reader_tokenEnd 5 = .ok (.getfield 11, 3) := by decide +kernel
theorem d_Reader_tokenEnd_8 : decode b_Reader_tokenEnd 8 = .ok (.iload_n 1, 1) := by decide +kernel
theorem d_Reader_tokenEnd_9 : decode b_Reader_tokenEnd 9 = .ok (.iaload, 1) := by decide +kernel
theorem d_Reader_tokenEnd_10 : decode b_Reader_tokenEnd 10 = .ok (.invokestatic 100, 3) := by decide +kernel
theorem d_Reader_tokenEnd_13 : decode b_Reader_tokenEnd 13 = .ok (.ifCond .ne 22, 3) := by decide +kernel
theorem d_Reader_tokenEnd_16 : decode b_Reader_tokenEnd 16 = .ok (.aload_n 0, 1) := by decide +kernel
theorem d_Reader_tokenEnd_17 : decode b_Reader_tokenEnd 17 = .ok (.getfield 11, 3) := by decide +kernel
theorem d_Reader_tokenEnd_20 : decode b_Reader_tokenEnd 20 = .ok (.iload_n 1, 1) := by decide +kernel
theorem d_Reader_tokenEnd_21 : decode b_Reader_tokenEnd 21 = .ok (.iaload, 1) := by decide +kernel
theorem d_Reader_tokenEnd_22 : decode b_Reader_tokenEnd 22 = .ok (.bipush 45, 2) := by decide +kernel
theorem d_Reader_tokenEnd_24 : decode b_Reader_tokenEnd 24 = .ok (.if_icmp .ne 13, 3) := by decide +kernel
theorem d_Reader_tokenEnd_27 : decode b_Reader_tokenEnd 27 = .ok (.aload_n 0, 1) := by decide +kernel
theorem d_Reader_tokenEnd_28 : decode b_Reader_tokenEnd 28 = .ok (.iload_n 1, 1) := by decide +kernel
theorem d_Reader_tokenEnd_29 : decode b_Reader_tokenEnd 29 = .ok (.invokevirtual 103, 3) := by decide +kernel
theorem d_Reader_tokenEnd_32 : decode b_Reader_tokenEnd 32 = .ok (.ifCond .ne 5, 3) := by decide +kernel
theorem d_Reader_tokenEnd_35 : decode b_Reader_tokenEnd 35 = .ok (.iload_n 2, 1) := by decide +kernel
theorem d_Reader_tokenEnd_36 : decode b_Reader_tokenEnd 36 = .ok (.ireturn, 1) := by decide +kernel
theorem d_Reader_tokenEnd_37 : decode b_Reader_tokenEnd 37 = .ok (.iload_n 2, 1) := by decide +kernel
theorem d_Reader_tokenEnd_38 : decode b_Reader_tokenEnd 38 = .ok (.istore_n 3, 1) := by decide +kernel
theorem d_Reader_tokenEnd_39 : decode b_Reader_tokenEnd 39 = .ok (.iload_n 3, 1) := by decide +kernel
theorem d_Reader_tokenEnd_40 : decode b_Reader_tokenEnd 40 = .ok (.aload_n 0, 1) := by decide +kernel
theorem d_Reader_tokenEnd_41 : decode b_Reader_tokenEnd 41 = .ok (.getfield 38, 3) := by decide +kernel
theorem d_Reader_tokenEnd_44 : decode b_Reader_tokenEnd 44 = .ok (.if_icmp .ge 55, 3) := by decide +kernel
theorem d_Reader_tokenEnd_47 : decode b_Reader_tokenEnd 47 = .ok (.aload_n 0, 1) := by decide +kernel
theorem d_Reader_tokenEnd_48 : decode b_Reader_tokenEnd 48 = .ok (.getfield 11, 3) := by decide +kernel
theorem d_Reader_tokenEnd_51 : decode b_Reader_tokenEnd 51 = .ok (.iload_n 3, 1) := by decide +kernel
theorem d_Reader_tokenEnd_52 : decode b_Reader_tokenEnd 52 = .ok (.iaload, 1) := by decide +kernel
theorem d_Reader_tokenEnd_53 : decode b_Reader_tokenEnd 53 = .ok (.istore 4, 2) := by decide +kernel
theorem d_Reader_tokenEnd_55 : decode b_Reader_tokenEnd 55 = .ok (.iload 4, 2) := by decide +kernel
theorem d_Reader_tokenEnd_57 : decode b_Reader_tokenEnd 57 = .ok (.bipush 32, 2) := by decide +kernel
theorem d_Reader_tokenEnd_59 : decode b_Reader_tokenEnd 59 = .ok (.if_icmp .le 32, 3) := by decide +kernel
theorem d_Reader_tokenEnd_62 : decode b_Reader_tokenEnd 62 = .ok (.iload 4, 2) := by decide +kernel
theorem d_Reader_tokenEnd_64 : decode b_Reader_tokenEnd 64 = .ok (.bipush 126, 2) := by decide +kernel
theorem d_Reader_tokenEnd_66 : decode b_Reader_tokenEnd 66 = .ok (.if_icmp .gt 25, 3) := by decide +kernel
theorem d_Reader_tokenEnd_69 : decode b_Reader_tokenEnd 69 = .ok (.iload 4, 2) := by decide +kernel
theorem d_Reader_tokenEnd_71 : decode b_Reader_tokenEnd 71 = .ok (.bipush 59, 2) := by decide +kernel
theorem d_Reader_tokenEnd_73 : decode b_Reader_tokenEnd 73 = .ok (.if_icmp .eq 18, 3) := by decide +kernel
theorem d_Reader_tokenEnd_76 : decode b_Reader_tokenEnd 76 = .ok (.iload 4, 2) := by decide +kernel
theorem d_Reader_tokenEnd_78 : decode b_Reader_tokenEnd 78 = .ok (.bipush 45, 2) := by decide +kernel
theorem d_Reader_tokenEnd_80 : decode b_Reader_tokenEnd 80 = .ok (.if_icmp .eq 11, 3) := by decide +kernel
theorem d_Reader_tokenEnd_83 : decode b_Reader_tokenEnd 83 = .ok (.iload 4, 2) := by decide +kernel
theorem d_Reader_tokenEnd_85 : decode b_Reader_tokenEnd 85 = .ok (.invokestatic 100, 3) := by decide +kernel
theorem d_Reader_tokenEnd_88 : decode b_Reader_tokenEnd 88 = .ok (.ifCond .eq 5, 3) := by decide +kernel
theorem d_Reader_tokenEnd_91 : decode b_Reader_tokenEnd 91 = .ok (.iload_n 3, 1) := by decide +kernel
theorem d_Reader_tokenEnd_92 : decode b_Reader_tokenEnd 92 = .ok (.ireturn, 1) := by decide +kernel
theorem d_Reader_tokenEnd_93 : decode b_Reader_tokenEnd 93 = .ok (.iinc 3 1, 3) := by decide +kernel
theorem d_Reader_tokenEnd_96 : decode b_Reader_tokenEnd 96 = .ok (.goto (-57), 3) := by decide +kernel
theorem d_Reader_tokenEnd_99 : decode b_Reader_tokenEnd 99 = .ok (.aload_n 0, 1) := by decide +kernel
theorem d_Reader_tokenEnd_100 : decode b_Reader_tokenEnd 100 = .ok (.getfield 38, 3) := by decide +kernel
theorem d_Reader_tokenEnd_103 : decode b_Reader_tokenEnd 103 = .ok (.ireturn, 1) := by decide +kernel
theorem lk_Reader_100 : Cond.methodLink "TurtleWorld$Reader" 100 ⟨"TurtleWorld$Reader", "isAlone", "(I)Z"⟩ ∈ tw_T := tw_i4 34 (by decide +kernel) (by decide +kernel)
theorem hd_Reader_isAlone : y_Reader_isAlone.cls ≠ "java/lang/invoke/MethodHandle" ∧ y_Reader_isAlone.cls ≠ "java/lang/invoke/VarHandle" ∧ (parseMethodDescriptor y_Reader_isAlone.desc).map (fun d => d.parameters.length) = some 1 := by decide +kernel
theorem st_Reader_isAlone : Cond.static ⟨"TurtleWorld$Reader", "isAlone", "(I)Z"⟩ ∈ tw_T := tw_i4 35 (by decide +kernel) (by decide +kernel)
theorem lk_Reader_103 : Cond.methodLink "TurtleWorld$Reader" 103 ⟨"TurtleWorld$Reader", "beginsNumber", "(I)Z"⟩ ∈ tw_T := tw_i4 40 (by decide +kernel) (by decide +kernel)
theorem hd_Reader_beginsNumber : y_Reader_beginsNumber.cls ≠ "java/lang/invoke/MethodHandle" ∧ y_Reader_beginsNumber.cls ≠ "java/lang/invoke/VarHandle" ∧ (parseMethodDescriptor y_Reader_beginsNumber.desc).map (fun d => d.parameters.length) = some 1 := by decide +kernel
theorem in_Reader_beginsNumber : Cond.instanceMethod ⟨"TurtleWorld$Reader", "beginsNumber", "(I)Z"⟩ ∈ tw_T := tw_i4 42 (by decide +kernel) (by decide +kernel)
theorem sel_Reader_beginsNumber : Cond.selects "TurtleWorld$Reader" ⟨"TurtleWorld$Reader", "beginsNumber", "(I)Z"⟩ ⟨"TurtleWorld$Reader", "beginsNumber", "(I)Z"⟩ ∈ tw_T := tw_inS 11 (by decide +kernel) (by decide +kernel)
theorem hd_Lexicon_isAt : y_Lexicon_isAt.cls ≠ "java/lang/invoke/MethodHandle" ∧ y_Lexicon_isAt.cls ≠ "java/lang/invoke/VarHandle" ∧ (parseMethodDescriptor y_Lexicon_isAt.desc).map (fun d => d.parameters.length) = some 3 := by decide +kernel
theorem hd_Lexicon_meaning : y_Lexicon_meaning.cls ≠ "java/lang/invoke/MethodHandle" ∧ y_Lexicon_meaning.cls ≠ "java/lang/invoke/VarHandle" ∧ (parseMethodDescriptor y_Lexicon_meaning.desc).map (fun d => d.parameters.length) = some 2 := by decide +kernel
def m_Turtles_part (n : Nat) (g : Nat → Nat) (i : Nat → Int32) (a : Nat → Nat → Int32) (v1 : Int32) (v2 : Int32) : Option (Int32) := ob0 (m_Turtles_exists n v1) (fun r_2 => if r_2 = ((0 : Int32)) then some 0 else if v2 < ((0 : Int32)) then some 0 else if ((7 : Int32)) ≤ v2 then some 0 else ck (((v1 * 7) + v2)) 56 (some (a 20 ((v1 * 7) + v2).toNatClampNeg)))
set_option maxHeartbeats 4000000 in
set_option maxRecDepth 100000 in
theorem x_Turtles_part (l : Launch) (dC : Nat → ClassId) (dI : Nat → Nat → Nat) (cI : ClassId) (adK adV adA u o g : Nat → Nat) (sz : Nat) (n : Nat) {i : Nat → Int32} {a : Nat → Nat → Int32} {v1 : Int32} {v2 : Int32} {r2 : Int32} (hm : m_Turtles_part n g i a v1 v2 = some r2) : Met l y_Turtles_part w_Turtles_part ({ frames := 1, cells := 0, slots := 0, locals := 20 } : Room) (va_Pc [.ref ((u 5)), .int v1, .int v2] (xEr dC dI cI adK adV adA u o g i a sz)) (va_Qi (xR r2) xT (xN sz)) 0 0 (xN sz) := by
  refine Met.ofW (cc := b_Turtles_part) (maxL := 3) (ret := (some .int)) (by decide) rfl ?_
  intro p e s m args below meth c s₁ B hml hv
  obtain ⟨rfl, hsz, hP, hK, hE⟩ := hv
  have hx := B.exec
  have hb := B.bytes
  have hr := B.returns
  have hts := atoms_spec (ws := w_Turtles_part) B.pre
  have htt : ∀ w ∈ tw_T, w.before _ s = true := fun w h => hts w (List.mem_cons_of_mem _ h)
  have hown : s.vm.findClass R_Turtles = some m.cls := findClass_of_methodNamed B.named
  have hlocks := B.notSynchronized
  subst hsz
  generalize hAe : xN s.heap.size = A at hE ⊢
  have hA : ∀ q : Nat, s.heap.size ≤ q → A q := fun q h => by rw [← hAe]; exact Or.inr h
  have hS : va_S A s.heap s.heap [] := va_S.rf
  have hl := lv_entry ([.ref ((u 5)), .int v1, .int v2]) (n := 3) (Nat.le_of_ble_eq_true rfl)
  rw [lg_entry_eq]
  generalize (lg_sl ([.ref ((u 5)), .int v1, .int v2]) ++ List.replicate (3 - (lg_sl ([.ref ((u 5)), .int v1, .int v2])).length) Slot.unset).toArray = ls at hl ⊢
  have hl : lv_has ls 3 [(0, .ref ((u 5))), (1, .int v1), (2, .int v2)] := hl
  rw [m_Turtles_part] at hm
  refine lv_iload_n hx hb d_Turtles_part_0 rfl (lv_at hl 1 rfl) ?_
  obtain ⟨r_2, h_1, hm⟩ := ob0_some hm
  have hFc := x_free0 hS hA
  refine va_calli (va_runS (As := [.int v1]) (rest := []) ⟨hx, hb, hml, hown, hts⟩ (x_Turtles_exists l s.heap.size n h_1) (va_cwS 1 hts (tw_GS tw_cons cw_Turtles_exists lk_Turtles_30 st_Turtles_exists ini_Turtles) rfl rfl rfl hd_Turtles_exists ⟨Nat.le_of_ble_eq_true rfl, Nat.le_of_ble_eq_true rfl⟩) xpS0 rfl rfl hl.1 rfl (lv_room (Nat.le_of_ble_eq_true rfl)) d_Turtles_part_1 ⟨Nat.le_of_ble_eq_true rfl, Nat.le_of_ble_eq_true rfl⟩) hS (fun q _ h => hFc q h) hFc (fun r9 u9 t9 H locs ht hvm e9 hB hz1 hk1 hS => ?_)
  have e9 : r_2 = r9 := e9
  subst e9
  replace hP := x_keep hP hk1
  clear hFc hk1 hz1 hvm hB ht
  refine lv_if_eq (tgt := 31) hx hb d_Turtles_part_4 (by decide) (fun c_3 => ?_) (fun c_3 => ?_)
  · replace hm := if_t c_3 hm
    refine lv_iconst (v := 0) hx hb d_Turtles_part_31 (by decide) ?_
    have e3 := re1 hm
    exact W.iret hx hb hr (fun t9 ht hW => ⟨⟨_, (), rfl, e3.symm, trivial⟩, hS.F ht⟩) hS.2.2 d_Turtles_part_32
  · replace hm := if_f c_3 hm
    refine lv_iload_n hx hb d_Turtles_part_7 rfl (lv_at hl 2 rfl) ?_
    refine lv_if_lt (tgt := 31) hx hb d_Turtles_part_8 (by decide) (fun c_4 => ?_) (fun c_4 => ?_)
    · replace hm := if_t c_4 hm
      refine lv_iconst (v := 0) hx hb d_Turtles_part_31 (by decide) ?_
      have e3 := re1 hm
      exact W.iret hx hb hr (fun t9 ht hW => ⟨⟨_, (), rfl, e3.symm, trivial⟩, hS.F ht⟩) hS.2.2 d_Turtles_part_32
    · replace hm := if_f c_4 hm
      refine lv_iload_n hx hb d_Turtles_part_11 rfl (lv_at hl 2 rfl) ?_
      refine lv_bipush (v := 7) hx hb d_Turtles_part_12 (by decide) ?_
      refine lv_icmp_ge (tgt := 31) hx hb d_Turtles_part_14 (by decide) (fun c_5 => ?_) (fun c_5 => ?_)
      · replace hm := if_t c_5 hm
        refine lv_iconst (v := 0) hx hb d_Turtles_part_31 (by decide) ?_
        have e3 := re1 hm
        exact W.iret hx hb hr (fun t9 ht hW => ⟨⟨_, (), rfl, e3.symm, trivial⟩, hS.F ht⟩) hS.2.2 d_Turtles_part_32
      · replace hm := if_f c_5 hm
        refine lv_aload_n hx hb d_Turtles_part_17 rfl (lv_at hl 0 rfl) ?_
        refine va_get (D := (dC, dI)) (ci := 5) (v := .ref ((u 30))) (C := R_Turtles) (T := F_Turtles) (N := 8) hx hb htt iw_Turtles hown hK hP 5 xo_5 rfl 0 (Nat.le_of_ble_eq_true rfl) (htt _ lk_Turtles_11) (fun _ h9 => h9) xg_5_0 d_Turtles_part_18 ?_
        refine lv_iload_n hx hb d_Turtles_part_21 rfl (lv_at hl 1 rfl) ?_
        refine lv_bipush (v := 7) hx hb d_Turtles_part_22 (by decide) ?_
        refine lv_imul hx hb d_Turtles_part_24 ?_
        refine lv_iload_n hx hb d_Turtles_part_25 rfl (lv_at hl 2 rfl) ?_
        refine lv_iadd hx hb d_Turtles_part_26 ?_
        obtain ⟨h_6, hm⟩ := ck_some hm
        refine va_iald hx hb hK hP 32 0 twA_20 rfl h_6 d_Turtles_part_27 ?_
        refine lv_goto (tgt := 32) hx hb d_Turtles_part_28 (by decide) ?_
        have e3 := re1 hm
        exact W.iret hx hb hr (fun t9 ht hW => ⟨⟨_, (), rfl, e3.symm, trivial⟩, hS.F ht⟩) hS.2.2 d_Turtles_part_32

def m_Turtles_setPart (n : Nat) (g : Nat → Nat) (i : Nat → Int32) (a : Nat → Nat → Int32) (v1 : Int32) (v2 : Int32) : Option ((Nat → Int32) × (Nat → Nat → Int32) × Int32) := ob0 (m_Turtles_exists n (i 17)) (fun r_2 => if r_2 = ((0 : Int32)) then some (i, a, (0 : Int32)) else if v1 < ((0 : Int32)) then some (i, a, (0 : Int32)) else if ((7 : Int32)) ≤ v1 then some (i, a, (0 : Int32)) else ck ((((i 17) * 7) + v1)) 56 (ob1 (sv a 20 (((i 17) * 7) + v1).toNatClampNeg v2 : Nat → Nat → Int32) (fun a_7 => some (i, a_7, (0 : Int32)))))
set_option maxHeartbeats 4000000 in
set_option maxRecDepth 100000 in
theorem x_Turtles_setPart (l : Launch) (dC : Nat → ClassId) (dI : Nat → Nat → Nat) (cI : ClassId) (adK adV adA u o g : Nat → Nat) (sz : Nat) (n : Nat) {i : Nat → Int32} {a : Nat → Nat → Int32} {v1 : Int32} {v2 : Int32} {i2 : Nat → Int32} {a2 : Nat → Nat → Int32} {r2 : Int32} (hm : m_Turtles_setPart n g i a v1 v2 = some (i2, a2, r2)) : Met l y_Turtles_setPart w_Turtles_setPart ({ frames := 1, cells := 0, slots := 0, locals := 20 } : Room) (va_Pc [.ref ((u 5)), .int v1, .int v2] (xE dC dI cI adK adV adA u o g i a sz)) (va_Qv xV (xB dC dI cI u o g i2 a2 (va_A (TW cI u o i a g) sz)) (va_A (TW cI u o i a g) sz)) 0 0 ((va_A (TW cI u o i a g) sz)) := by
  refine Met.ofW (cc := b_Turtles_setPart) (maxL := 3) (ret := none) (by decide) rfl ?_
  intro p e s m args below meth c s₁ B hml hv
  obtain ⟨rfl, hsz, hP, hK, hE, hD0⟩ := hv
  have hx := B.exec
  have hb := B.bytes
  have hr := B.returns
  have hts := atoms_spec (ws := w_Turtles_setPart) B.pre
  have htt : ∀ w ∈ tw_T, w.before _ s = true := fun w h => hts w (List.mem_cons_of_mem _ h)
  have hown : s.vm.findClass R_Turtles = some m.cls := findClass_of_methodNamed B.named
  have hlocks := B.notSynchronized
  subst hsz
  have hD := hD0.self (sz := s.heap.size)
  generalize hAe : (va_A (TW cI u o i a g) s.heap.size) = A at hD hE ⊢
  have hA : ∀ q : Nat, s.heap.size ≤ q → A q := fun q h => by rw [← hAe]; exact Or.inr h
  have hS : va_S A s.heap s.heap [] := va_S.rf
  have hl := lv_entry ([.ref ((u 5)), .int v1, .int v2]) (n := 3) (Nat.le_of_ble_eq_true rfl)
  rw [lg_entry_eq]
  generalize (lg_sl ([.ref ((u 5)), .int v1, .int v2]) ++ List.replicate (3 - (lg_sl ([.ref ((u 5)), .int v1, .int v2])).length) Slot.unset).toArray = ls at hl ⊢
  have hl : lv_has ls 3 [(0, .ref ((u 5))), (1, .int v1), (2, .int v2)] := hl
  rw [m_Turtles_setPart] at hm
  refine lv_aload_n hx hb d_Turtles_setPart_0 rfl (lv_at hl 0 rfl) ?_
  refine va_get (D := (dC, dI)) (ci := 5) (v := .int (i 17)) (C := R_Turtles) (T := F_Turtles) (N := 8) hx hb htt iw_Turtles hown hK hP 5 xo_5 rfl 2 (Nat.le_of_ble_eq_true rfl) (htt _ lk_Turtles_34) (fun _ h9 => h9) xg_5_2 d_Turtles_setPart_1 ?_
  obtain ⟨r_2, h_1, hm⟩ := ob0_some hm
  have hFc := x_free0 hS hA
  refine va_calli (va_runS (As := [.int (i 17)]) (rest := []) ⟨hx, hb, hml, hown, hts⟩ (x_Turtles_exists l s.heap.size n h_1) (va_cwS 1 hts (tw_GS tw_cons cw_Turtles_exists lk_Turtles_30 st_Turtles_exists ini_Turtles) rfl rfl rfl hd_Turtles_exists ⟨Nat.le_of_ble_eq_true rfl, Nat.le_of_ble_eq_true rfl⟩) xpS0 rfl rfl hl.1 rfl (lv_room (Nat.le_of_ble_eq_true rfl)) d_Turtles_setPart_4 ⟨Nat.le_of_ble_eq_true rfl, Nat.le_of_ble_eq_true rfl⟩) hS (fun q _ h => hFc q h) hFc (fun r9 u9 t9 H locs ht hvm e9 hB hz1 hk1 hS => ?_)
  have e9 : r_2 = r9 := e9
  subst e9
  replace hP := x_keep hP hk1
  clear hFc hk1 hz1 hvm hB ht
  refine lv_if_eq (tgt := 35) hx hb d_Turtles_setPart_7 (by decide) (fun c_3 => ?_) (fun c_3 => ?_)
  · replace hm := if_t c_3 hm
    obtain ⟨e1i, e1a, e3⟩ := re3 hm
    obtain ⟨hP, hD⟩ := x_eq e1i e1a hP hD
    exact W.vret hx hb hr (fun t9 ht hW => ⟨⟨(), rfl, trivial, by rw [ht]; exact hP, hD⟩, hS.F ht⟩) hS.2.2 d_Turtles_setPart_35
  · replace hm := if_f c_3 hm
    refine lv_iload_n hx hb d_Turtles_setPart_10 rfl (lv_at hl 1 rfl) ?_
    refine lv_if_lt (tgt := 35) hx hb d_Turtles_setPart_11 (by decide) (fun c_4 => ?_) (fun c_4 => ?_)
    · replace hm := if_t c_4 hm
      obtain ⟨e1i, e1a, e3⟩ := re3 hm
      obtain ⟨hP, hD⟩ := x_eq e1i e1a hP hD
      exact W.vret hx hb hr (fun t9 ht hW => ⟨⟨(), rfl, trivial, by rw [ht]; exact hP, hD⟩, hS.F ht⟩) hS.2.2 d_Turtles_setPart_35
    · replace hm := if_f c_4 hm
      refine lv_iload_n hx hb d_Turtles_setPart_14 rfl (lv_at hl 1 rfl) ?_
      refine lv_bipush (v := 7) hx hb d_Turtles_setPart_15 (by decide) ?_
      refine lv_icmp_ge (tgt := 35) hx hb d_Turtles_setPart_17 (by decide) (fun c_5 => ?_) (fun c_5 => ?_)
      · replace hm := if_t c_5 hm
        obtain ⟨e1i, e1a, e3⟩ := re3 hm
        obtain ⟨hP, hD⟩ := x_eq e1i e1a hP hD
        exact W.vret hx hb hr (fun t9 ht hW => ⟨⟨(), rfl, trivial, by rw [ht]; exact hP, hD⟩, hS.F ht⟩) hS.2.2 d_Turtles_setPart_35
      · replace hm := if_f c_5 hm
        refine lv_aload_n hx hb d_Turtles_setPart_20 rfl (lv_at hl 0 rfl) ?_
        refine va_get (D := (dC, dI)) (ci := 5) (v := .ref ((u 30))) (C := R_Turtles) (T := F_Turtles) (N := 8) hx hb htt iw_Turtles hown hK hP 5 xo_5 rfl 0 (Nat.le_of_ble_eq_true rfl) (htt _ lk_Turtles_11) (fun _ h9 => h9) xg_5_0 d_Turtles_setPart_21 ?_
        refine lv_aload_n hx hb d_Turtles_setPart_24 rfl (lv_at hl 0 rfl) ?_
        refine va_get (D := (dC, dI)) (ci := 5) (v := .int (i 17)) (C := R_Turtles) (T := F_Turtles) (N := 8) hx hb htt iw_Turtles hown hK hP 5 xo_5 rfl 2 (Nat.le_of_ble_eq_true rfl) (htt _ lk_Turtles_34) (fun _ h9 => h9) xg_5_2 d_Turtles_setPart_25 ?_
        refine lv_bipush (v := 7) hx hb d_Turtles_setPart_28 (by decide) ?_
        refine lv_imul hx hb d_Turtles_setPart_30 ?_
        refine lv_iload_n hx hb d_Turtles_setPart_31 rfl (lv_at hl 1 rfl) ?_
        refine lv_iadd hx hb d_Turtles_setPart_32 ?_
        refine lv_iload_n hx hb d_Turtles_setPart_33 rfl (lv_at hl 2 rfl) ?_
        obtain ⟨h_6, hm⟩ := ck_some hm
        refine va_iast hx hb hK hP hD hS 32 0 twA_20 rfl h_6 d_Turtles_setPart_34 (fun H locs hP hD hS => ?_)
        obtain ⟨a_7, ea_7⟩ : ∃ y9 : Nat → Nat → Int32, y9 = sv a 20 (((i 17) * 7) + v1).toNatClampNeg v2 := ⟨_, rfl⟩
        replace hm := ob1_at ea_7 hm
        obtain ⟨hP, hD⟩ := xv_20 ea_7 hP hD
        obtain ⟨e1i, e1a, e3⟩ := re3 hm
        obtain ⟨hP, hD⟩ := x_eq e1i e1a hP hD
        exact W.vret hx hb hr (fun t9 ht hW => ⟨⟨(), rfl, trivial, by rw [ht]; exact hP, hD⟩, hS.F ht⟩) hS.2.2 d_Turtles_setPart_35

def m_Turtles_mean (n : Nat) (g : Nat → Nat) (i : Nat → Int32) (a : Nat → Nat → Int32) (v1 : Int32) : Option ((Nat → Int32) × (Nat → Nat → Int32) × Int32) := ob0 (m_Turtles_exists n v1) (fun r_2 => if r_2 = ((0 : Int32)) then some (i, a, (-2147483645)) else ob1 (upd i 17 v1 : Nat → Int32) (fun i_4 => some (i_4, a, (-2147483648))))
set_option maxHeartbeats 4000000 in
set_option maxRecDepth 100000 in
theorem x_Turtles_mean (l : Launch) (dC : Nat → ClassId) (dI : Nat → Nat → Nat) (cI : ClassId) (adK adV adA u o g : Nat → Nat) (sz : Nat) (n : Nat) {i : Nat → Int32} {a : Nat → Nat → Int32} {v1 : Int32} {i2 : Nat → Int32} {a2 : Nat → Nat → Int32} {r2 : Int32} (hm : m_Turtles_mean n g i a v1 = some (i2, a2, r2)) : Met l y_Turtles_mean w_Turtles_mean ({ frames := 1, cells := 0, slots := 0, locals := 20 } : Room) (va_Pc [.ref ((u 5)), .int v1] (xE dC dI cI adK adV adA u o g i a sz)) (va_Qi (xR r2) (xB dC dI cI u o g i2 a2 (va_A (TW cI u o i a g) sz)) (va_A (TW cI u o i a g) sz)) 0 0 ((va_A (TW cI u o i a g) sz)) := by
  refine Met.ofW (cc := b_Turtles_mean) (maxL := 2) (ret := (some .int)) (by decide) rfl ?_
  intro p e s m args below meth c s₁ B hml hv
  obtain ⟨rfl, hsz, hP, hK, hE, hD0⟩ := hv
  have hx := B.exec
  have hb := B.bytes
  have hr := B.returns
  have hts := atoms_spec (ws := w_Turtles_mean) B.pre
  have htt : ∀ w ∈ tw_T, w.before _ s = true := fun w h => hts w (List.mem_cons_of_mem _ h)
  have hown : s.vm.findClass R_Turtles = some m.cls := findClass_of_methodNamed B.named
  have hlocks := B.notSynchronized
  subst hsz
  have hD := hD0.self (sz := s.heap.size)
  generalize hAe : (va_A (TW cI u o i a g) s.heap.size) = A at hD hE ⊢
  have hA : ∀ q : Nat, s.heap.size ≤ q → A q := fun q h => by rw [← hAe]; exact Or.inr h
  have hS : va_S A s.heap s.heap [] := va_S.rf
  have hl := lv_entry ([.ref ((u 5)), .int v1]) (n := 2) (Nat.le_of_ble_eq_true rfl)
  rw [lg_entry_eq]
  generalize (lg_sl ([.ref ((u 5)), .int v1]) ++ List.replicate (2 - (lg_sl ([.ref ((u 5)), .int v1])).length) Slot.unset).toArray = ls at hl ⊢
  have hl : lv_has ls 2 [(0, .ref ((u 5))), (1, .int v1)] := hl
  rw [m_Turtles_mean] at hm
  refine lv_iload_n hx hb d_Turtles_mean_0 rfl (lv_at hl 1 rfl) ?_
  obtain ⟨r_2, h_1, hm⟩ := ob0_some hm
  have hFc := x_free0 hS hA
  refine va_calli (va_runS (As := [.int v1]) (rest := []) ⟨hx, hb, hml, hown, hts⟩ (x_Turtles_exists l s.heap.size n h_1) (va_cwS 1 hts (tw_GS tw_cons cw_Turtles_exists lk_Turtles_30 st_Turtles_exists ini_Turtles) rfl rfl rfl hd_Turtles_exists ⟨Nat.le_of_ble_eq_true rfl, Nat.le_of_ble_eq_true rfl⟩) xpS0 rfl rfl hl.1 rfl (lv_room (Nat.le_of_ble_eq_true rfl)) d_Turtles_mean_1 ⟨Nat.le_of_ble_eq_true rfl, Nat.le_of_ble_eq_true rfl⟩) hS (fun q _ h => hFc q h) hFc (fun r9 u9 t9 H locs ht hvm e9 hB hz1 hk1 hS => ?_)
  have e9 : r_2 = r9 := e9
  subst e9
  replace hP := x_keep hP hk1
  clear hFc hk1 hz1 hvm hB ht
  refine lv_if_ne (tgt := 10) hx hb d_Turtles_mean_4 (by decide) (fun c_3 => ?_) (fun c_3 => ?_)
  · replace hm := if_f c_3 hm
    refine lv_aload_n hx hb d_Turtles_mean_10 rfl (lv_at hl 0 rfl) ?_
    refine lv_iload_n hx hb d_Turtles_mean_11 rfl (lv_at hl 1 rfl) ?_
    refine va_put (D := (dC, dI)) (ci := 5) (v := .int v1) (ty := .int) (C := R_Turtles) (T := F_Turtles) (N := 8) hx hb htt iw_Turtles t_Turtles t_Turtles_ok n_Turtles hown hK hP hD hS 5 xo_5 rfl 2 (Nat.le_of_ble_eq_true rfl) (htt _ lk_Turtles_34) (fun _ h9 => h9) rfl (by decide +kernel) rfl rfl xl_5_2 d_Turtles_mean_12 (fun H locs hP hD hS => ?_)
    obtain ⟨i_4, ei_4⟩ : ∃ y9 : Nat → Int32, y9 = upd i 17 v1 := ⟨_, rfl⟩
    replace hm := ob1_at ei_4 hm
    obtain ⟨hP, hD⟩ := xw_17 ei_4 hP hD
    refine lv_ldc (v := (-2147483648)) hx hb hown (htt _ lk_Turtles_83) d_Turtles_mean_15 ?_
    obtain ⟨e1i, e1a, e3⟩ := re3 hm
    obtain ⟨hP, hD⟩ := x_eq e1i e1a hP hD
    exact W.iret hx hb hr (fun t9 ht hW => ⟨⟨_, (), rfl, e3.symm, by rw [ht]; exact hP, hD⟩, hS.F ht⟩) hS.2.2 d_Turtles_mean_17
  · replace hm := if_t c_3 hm
    refine lv_ldc (v := (-2147483645)) hx hb hown (htt _ lk_Turtles_62) d_Turtles_mean_7 ?_
    obtain ⟨e1i, e1a, e3⟩ := re3 hm
    obtain ⟨hP, hD⟩ := x_eq e1i e1a hP hD
    exact W.iret hx hb hr (fun t9 ht hW => ⟨⟨_, (), rfl, e3.symm, by rw [ht]; exact hP, hD⟩, hS.F ht⟩) hS.2.2 d_Turtles_mean_9

def m_Deeds_inBounds (n : Nat) (v0 : Int64) : Option (Int32) := if ((lg_cmp v0 ((-1000000000)))) < ((0 : Int32)) then some ((-2147483639)) else if ((lg_cmp v0 1000000000)) ≤ ((0 : Int32)) then ob0 (m_Heap_number n v0.toInt32) (fun r_4 => some r_4) else some ((-2147483639))
set_option maxHeartbeats 4000000 in
set_option maxRecDepth 100000 in
theorem x_Deeds_inBounds (l : Launch) (sz : Nat) (n : Nat) {v0 : Int64} {r2 : Int32} (hm : m_Deeds_inBounds n v0 = some r2) : Met l y_Deeds_inBounds w_Deeds_inBounds ({ frames := 1, cells := 0, slots := 0, locals := 20 } : Room) (va_Pc [.long v0] (xE0 sz)) (va_Qi (xR r2) xT (xN sz)) 0 0 (xN sz) := by
  refine Met.ofW (cc := b_Deeds_inBounds) (maxL := 2) (ret := (some .int)) (by decide) rfl ?_
  intro p e s m args below meth c s₁ B hml hv
  obtain ⟨rfl, hsz⟩ := hv
  have hx := B.exec
  have hb := B.bytes
  have hr := B.returns
  have hts := atoms_spec (ws := w_Deeds_inBounds) B.pre
  have htt : ∀ w ∈ tw_T, w.before _ s = true := fun w h => hts w (List.mem_cons_of_mem _ h)
  have hown : s.vm.findClass R_Deeds = some m.cls := findClass_of_methodNamed B.named
  have hlocks := B.notSynchronized
  subst hsz
  generalize hAe : xN s.heap.size = A
  have hA : ∀ q : Nat, s.heap.size ≤ q → A q := fun q h => by rw [← hAe]; exact Or.inr h
  have hS : va_S A s.heap s.heap [] := va_S.rf
  have hl := lv_entry ([.long v0]) (n := 2) (Nat.le_of_ble_eq_true rfl)
  rw [lg_entry_eq]
  generalize (lg_sl ([.long v0]) ++ List.replicate (2 - (lg_sl ([.long v0])).length) Slot.unset).toArray = ls at hl ⊢
  have hl : lv_has ls 2 [(0, .long v0)] := hl
  rw [m_Deeds_inBounds] at hm
  refine lv_lload_n hx hb d_Deeds_inBounds_0 rfl (lv_at hl 0 rfl) ?_
  refine lv_ldc2 (v := (-1000000000)) hx hb hown (htt _ lk_Deeds_164) d_Deeds_inBounds_1 ?_
  refine W.lcmp hx hb d_Deeds_inBounds_4 ?_
  refine lv_if_lt (tgt := 16) hx hb d_Deeds_inBounds_5 (by decide) (fun c_1 => ?_) (fun c_1 => ?_)
  · replace hm := if_t c_1 hm
    refine lv_ldc (v := (-2147483639)) hx hb hown (htt _ lk_Deeds_168) d_Deeds_inBounds_16 ?_
    refine lv_goto (tgt := 26) hx hb d_Deeds_inBounds_18 (by decide) ?_
    have e3 := re1 hm
    exact W.iret hx hb hr (fun t9 ht hW => ⟨⟨_, (), rfl, e3.symm, trivial⟩, hS.F ht⟩) hS.2.2 d_Deeds_inBounds_26
  · replace hm := if_f c_1 hm
    refine lv_lload_n hx hb d_Deeds_inBounds_8 rfl (lv_at hl 0 rfl) ?_
    refine lv_ldc2 (v := 1000000000) hx hb hown (htt _ lk_Deeds_166) d_Deeds_inBounds_9 ?_
    refine W.lcmp hx hb d_Deeds_inBounds_12 ?_
    refine lv_if_le (tgt := 21) hx hb d_Deeds_inBounds_13 (by decide) (fun c_2 => ?_) (fun c_2 => ?_)
    · replace hm := if_t c_2 hm
      refine lv_lload_n hx hb d_Deeds_inBounds_21 rfl (lv_at hl 0 rfl) ?_
      refine lv_l2i hx hb d_Deeds_inBounds_22 rfl ?_
      obtain ⟨r_4, h_3, hm⟩ := ob0_some hm
      have hFc := x_free0 hS hA
      refine va_calli (va_runS (As := [.int v0.toInt32]) (rest := []) ⟨hx, hb, hml, hown, hts⟩ (x_Heap_number l s.heap.size n h_3) (va_cwS 1 hts (tw_GS tw_cons cw_Heap_number lk_Deeds_127 st_Heap_number ini_Heap) rfl rfl rfl hd_Heap_number ⟨Nat.le_of_ble_eq_true rfl, Nat.le_of_ble_eq_true rfl⟩) xpS0 rfl rfl hl.1 rfl (lv_room (Nat.le_of_ble_eq_true rfl)) d_Deeds_inBounds_23 ⟨Nat.le_of_ble_eq_true rfl, Nat.le_of_ble_eq_true rfl⟩) hS (fun q _ h => hFc q h) hFc (fun r9 u9 t9 H locs ht hvm e9 hB hz1 hk1 hS => ?_)
      have e9 : r_4 = r9 := e9
      subst e9
      clear hFc hk1 hz1 hvm hB ht
      have e3 := re1 hm
      exact W.iret hx hb hr (fun t9 ht hW => ⟨⟨_, (), rfl, e3.symm, trivial⟩, hS.F ht⟩) hS.2.2 d_Deeds_inBounds_26
    · replace hm := if_f c_2 hm
      refine lv_ldc (v := (-2147483639)) hx hb hown (htt _ lk_Deeds_168) d_Deeds_inBounds_16 ?_
      refine lv_goto (tgt := 26) hx hb d_Deeds_inBounds_18 (by decide) ?_
      have e3 := re1 hm
      exact W.iret hx hb hr (fun t9 ht hW => ⟨⟨_, (), rfl, e3.symm, trivial⟩, hS.F ht⟩) hS.2.2 d_Deeds_inBounds_26

def m_Deeds_random (n : Nat) (g : Nat → Nat) (i : Nat → Int32) (a : Nat → Nat → Int32) (v1 : Int32) : Option ((Nat → Int32) × (Nat → Nat → Int32) × Int32) := if ((1 : Int32)) ≤ v1 then ob1 (i 45 : Int32) (fun x_2 => ob1 (x_2 ^^^ (x_2 <<< ((13 : Int32) &&& 31)) : Int32) (fun x_3 => ob1 (x_3 ^^^ ((x_3.toUInt32 >>> ((17 : Int32).toUInt32 &&& Int32.toUInt32 31)).toInt32) : Int32) (fun x_4 => ob1 (x_4 ^^^ (x_4 <<< ((5 : Int32) &&& 31)) : Int32) (fun x_5 => ob1 (upd i 45 x_5 : Nat → Int32) (fun i_6 => cz v1 (ob0 (m_Heap_number n ((x_5 &&& 2147483647) - (x_5 &&& 2147483647) / v1 * v1)) (fun r_9 => some (i_6, a, r_9)))))))) else some (i, a, (-2147483645))
set_option maxHeartbeats 4000000 in
set_option maxRecDepth 100000 in
theorem x_Deeds_random (l : Launch) (dC : Nat → ClassId) (dI : Nat → Nat → Nat) (cI : ClassId) (adK adV adA u o g : Nat → Nat) (sz : Nat) (n : Nat) {i : Nat → Int32} {a : Nat → Nat → Int32} {v1 : Int32} {i2 : Nat → Int32} {a2 : Nat → Nat → Int32} {r2 : Int32} (hm : m_Deeds_random n g i a v1 = some (i2, a2, r2)) : Met l y_Deeds_random w_Deeds_random ({ frames := 1, cells := 0, slots := 0, locals := 20 } : Room) (va_Pc [.ref ((u 10)), .int v1] (xE dC dI cI adK adV adA u o g i a sz)) (va_Qi (xR r2) (xB dC dI cI u o g i2 a2 (va_A (TW cI u o i a g) sz)) (va_A (TW cI u o i a g) sz)) 0 0 ((va_A (TW cI u o i a g) sz)) := by
  refine Met.ofW (cc := b_Deeds_random) (maxL := 3) (ret := (some .int)) (by decide) rfl ?_
  intro p e s m args below meth c s₁ B hml hv
  obtain ⟨rfl, hsz, hP, hK, hE, hD0⟩ := hv
  have hx := B.exec
  have hb := B.bytes
  have hr := B.returns
  have hts := atoms_spec (ws := w_Deeds_random) B.pre
  have htt : ∀ w ∈ tw_T, w.before _ s = true := fun w h => hts w (List.mem_cons_of_mem _ h)
  have hown : s.vm.findClass R_Deeds = some m.cls := findClass_of_methodNamed B.named
  have hlocks := B.notSynchronized
  subst hsz
  have hD := hD0.self (sz := s.heap.size)
  generalize hAe : (va_A (TW cI u o i a g) s.heap.size) = A at hD hE ⊢
  have hA : ∀ q : Nat, s.heap.size ≤ q → A q := fun q h => by rw [← hAe]; exact Or.inr h
  have hS : va_S A s.heap s.heap [] := va_S.rf
  have hl := lv_entry ([.ref ((u 10)), .int v1]) (n := 3) (Nat.le_of_ble_eq_true rfl)
  rw [lg_entry_eq]
  generalize (lg_sl ([.ref ((u 10)), .int v1]) ++ List.replicate (3 - (lg_sl ([.ref ((u 10)), .int v1])).length) Slot.unset).toArray = ls at hl ⊢
  have hl : lv_has ls 3 [(0, .ref ((u 10))), (1, .int v1)] := hl
  rw [m_Deeds_random] at hm
  refine lv_iload_n hx hb d_Deeds_random_0 rfl (lv_at hl 1 rfl) ?_
  refine lv_iconst (v := 1) hx hb d_Deeds_random_1 (by decide) ?_
  refine lv_icmp_ge (tgt := 8) hx hb d_Deeds_random_2 (by decide) (fun c_1 => ?_) (fun c_1 => ?_)
  · replace hm := if_t c_1 hm
    refine lv_aload_n hx hb d_Deeds_random_8 rfl (lv_at hl 0 rfl) ?_
    refine va_get (D := (dC, dI)) (ci := 10) (v := .int (i 45)) (C := R_Deeds) (T := F_Deeds) (N := 8) hx hb htt iw_Deeds hown hK hP 10 xo_10 rfl 7 (Nat.le_of_ble_eq_true rfl) (htt _ lk_Deeds_42) (fun _ h9 => h9) xg_10_7 d_Deeds_random_9 ?_
    refine lv_topi (fun x_2 ex_2 => ?_)
    replace hm := ob1_at ex_2 hm
    refine lv_istore_n (lv' := [(2, .int x_2), (0, .ref ((u 10))), (1, .int v1)]) hx hb d_Deeds_random_12 rfl hl (by decide) rfl (fun ls hl => ?_)
    refine lv_iload_n hx hb d_Deeds_random_13 rfl (lv_at hl 0 rfl) ?_
    refine lv_iload_n hx hb d_Deeds_random_14 rfl (lv_at hl 0 rfl) ?_
    refine lv_bipush (v := 13) hx hb d_Deeds_random_15 (by decide) ?_
    refine lv_ishl hx hb d_Deeds_random_17 ?_
    refine lv_ixor hx hb d_Deeds_random_18 ?_
    refine lv_topi (fun x_3 ex_3 => ?_)
    replace hm := ob1_at ex_3 hm
    refine lv_istore_n (lv' := [(2, .int x_3), (0, .ref ((u 10))), (1, .int v1)]) hx hb d_Deeds_random_19 rfl hl (by decide) rfl (fun ls hl => ?_)
    refine lv_iload_n hx hb d_Deeds_random_20 rfl (lv_at hl 0 rfl) ?_
    refine lv_iload_n hx hb d_Deeds_random_21 rfl (lv_at hl 0 rfl) ?_
    refine lv_bipush (v := 17) hx hb d_Deeds_random_22 (by decide) ?_
    refine lv_iushr hx hb d_Deeds_random_24 rfl ?_
    refine lv_ixor hx hb d_Deeds_random_25 ?_
    refine lv_topi (fun x_4 ex_4 => ?_)
    replace hm := ob1_at ex_4 hm
    refine lv_istore_n (lv' := [(2, .int x_4), (0, .ref ((u 10))), (1, .int v1)]) hx hb d_Deeds_random_26 rfl hl (by decide) rfl (fun ls hl => ?_)
    refine lv_iload_n hx hb d_Deeds_random_27 rfl (lv_at hl 0 rfl) ?_
    refine lv_iload_n hx hb d_Deeds_random_28 rfl (lv_at hl 0 rfl) ?_
    refine lv_iconst (v := 5) hx hb d_Deeds_random_29 (by decide) ?_
    refine lv_ishl hx hb d_Deeds_random_30 ?_
    refine lv_ixor hx hb d_Deeds_random_31 ?_
    refine lv_topi (fun x_5 ex_5 => ?_)
    replace hm := ob1_at ex_5 hm
    refine lv_istore_n (lv' := [(2, .int x_5), (0, .ref ((u 10))), (1, .int v1)]) hx hb d_Deeds_random_32 rfl hl (by decide) rfl (fun ls hl => ?_)
    refine lv_aload_n hx hb d_Deeds_random_33 rfl (lv_at hl 1 rfl) ?_
    refine lv_iload_n hx hb d_Deeds_random_34 rfl (lv_at hl 0 rfl) ?_
    refine va_put (D := (dC, dI)) (ci := 10) (v := .int x_5) (ty := .int) (C := R_Deeds) (T := F_Deeds) (N := 8) hx hb htt iw_Deeds t_Deeds t_Deeds_ok n_Deeds hown hK hP hD hS 10 xo_10 rfl 7 (Nat.le_of_ble_eq_true rfl) (htt _ lk_Deeds_42) (fun _ h9 => h9) rfl (by decide +kernel) rfl rfl xl_10_7 d_Deeds_random_35 (fun H locs hP hD hS => ?_)
    obtain ⟨i_6, ei_6⟩ : ∃ y9 : Nat → Int32, y9 = upd i 45 x_5 := ⟨_, rfl⟩
    replace hm := ob1_at ei_6 hm
    obtain ⟨hP, hD⟩ := xw_45 ei_6 hP hD
    refine lv_iload_n hx hb d_Deeds_random_38 rfl (lv_at hl 0 rfl) ?_
    refine lv_ldc (v := 2147483647) hx hb hown (htt _ lk_Deeds_169) d_Deeds_random_39 ?_
    refine lv_iand hx hb d_Deeds_random_41 ?_
    refine lv_iload_n hx hb d_Deeds_random_42 rfl (lv_at hl 2 rfl) ?_
    obtain ⟨h_7, hm⟩ := cz_some hm
    refine lv_irem hx hb d_Deeds_random_43 (h_7) ?_
    obtain ⟨r_9, h_8, hm⟩ := ob0_some hm
    have hFc := x_free0 hS hA
    refine va_calli (va_runS (As := [.int ((x_5 &&& 2147483647) - (x_5 &&& 2147483647) / v1 * v1)]) (rest := []) ⟨hx, hb, hml, hown, hts⟩ (x_Heap_number l H.size n h_8) (va_cwS 1 hts (tw_GS tw_cons cw_Heap_number lk_Deeds_127 st_Heap_number ini_Heap) rfl rfl rfl hd_Heap_number ⟨Nat.le_of_ble_eq_true rfl, Nat.le_of_ble_eq_true rfl⟩) xpS0 rfl rfl hl.1 rfl (lv_room (Nat.le_of_ble_eq_true rfl)) d_Deeds_random_44 ⟨Nat.le_of_ble_eq_true rfl, Nat.le_of_ble_eq_true rfl⟩) hS (fun q _ h => hFc q h) hFc (fun r9 u9 t9 H locs ht hvm e9 hB hz1 hk1 hS => ?_)
    have e9 : r_9 = r9 := e9
    subst e9
    replace hP := x_keep hP hk1
    clear hFc hk1 hz1 hvm hB ht
    obtain ⟨e1i, e1a, e3⟩ := re3 hm
    obtain ⟨hP, hD⟩ := x_eq e1i e1a hP hD
    exact W.iret hx hb hr (fun t9 ht hW => ⟨⟨_, (), rfl, e3.symm, by rw [ht]; exact hP, hD⟩, hS.F ht⟩) hS.2.2 d_Deeds_random_47
  · replace hm := if_f c_1 hm
    refine lv_ldc (v := (-2147483645)) hx hb hown (htt _ lk_Deeds_146) d_Deeds_random_5 ?_
    obtain ⟨e1i, e1a, e3⟩ := re3 hm
    obtain ⟨hP, hD⟩ := x_eq e1i e1a hP hD
    exact W.iret hx hb hr (fun t9 ht hW => ⟨⟨_, (), rfl, e3.symm, by rw [ht]; exact hP, hD⟩, hS.F ht⟩) hS.2.2 d_Deeds_random_7

def m_Deeds_isTrue (n : Nat) (g : Nat → Nat) (i : Nat → Int32) (a : Nat → Nat → Int32) (v1 : Int32) : Option (Int32) := ob0 (m_Waiting_input n g i a v1) (fun r_2 => ob0 (m_Heap_sameWord n g i a r_2 (i 4)) (fun r_4 => cb r_4 (some r_4)))
set_option maxHeartbeats 4000000 in
set_option maxRecDepth 100000 in
theorem x_Deeds_isTrue (l : Launch) (dC : Nat → ClassId) (dI : Nat → Nat → Nat) (cI : ClassId) (adK adV adA u o g : Nat → Nat) (sz : Nat) (n : Nat) {i : Nat → Int32} {a : Nat → Nat → Int32} {v1 : Int32} {r2 : Int32} (hm : m_Deeds_isTrue n g i a v1 = some r2) : Met l y_Deeds_isTrue w_Deeds_isTrue ({ frames := 1, cells := 0, slots := 0, locals := 26 } : Room) (va_Pc [.ref ((u 10)), .int v1] (xEr dC dI cI adK adV adA u o g i a sz)) (va_Qi (xR r2) xT (xN sz)) 0 0 (xN sz) := by
  refine Met.ofW (cc := b_Deeds_isTrue) (maxL := 2) (ret := (some .boolean)) (by decide) rfl ?_
  intro p e s m args below meth c s₁ B hml hv
  obtain ⟨rfl, hsz, hP, hK, hE⟩ := hv
  have hx := B.exec
  have hb := B.bytes
  have hr := B.returns
  have hts := atoms_spec (ws := w_Deeds_isTrue) B.pre
  have htt : ∀ w ∈ tw_T, w.before _ s = true := fun w h => hts w (List.mem_cons_of_mem _ h)
  have hown : s.vm.findClass R_Deeds = some m.cls := findClass_of_methodNamed B.named
  have hlocks := B.notSynchronized
  subst hsz
  generalize hAe : xN s.heap.size = A at hE ⊢
  have hA : ∀ q : Nat, s.heap.size ≤ q → A q := fun q h => by rw [← hAe]; exact Or.inr h
  have hS : va_S A s.heap s.heap [] := va_S.rf
  have hl := lv_entry ([.ref ((u 10)), .int v1]) (n := 2) (Nat.le_of_ble_eq_true rfl)
  rw [lg_entry_eq]
  generalize (lg_sl ([.ref ((u 10)), .int v1]) ++ List.replicate (2 - (lg_sl ([.ref ((u 10)), .int v1])).length) Slot.unset).toArray = ls at hl ⊢
  have hl : lv_has ls 2 [(0, .ref ((u 10))), (1, .int v1)] := hl
  rw [m_Deeds_isTrue] at hm
  refine lv_aload_n hx hb d_Deeds_isTrue_0 rfl (lv_at hl 0 rfl) ?_
  refine va_get (D := (dC, dI)) (ci := 10) (v := .ref ((u 1))) (C := R_Deeds) (T := F_Deeds) (N := 8) hx hb htt iw_Deeds hown hK hP 10 xo_10 rfl 0 (Nat.le_of_ble_eq_true rfl) (htt _ lk_Deeds_15) (fun _ h9 => h9) xg_10_0 d_Deeds_isTrue_1 ?_
  refine lv_aload_n hx hb d_Deeds_isTrue_4 rfl (lv_at hl 0 rfl) ?_
  refine va_get (D := (dC, dI)) (ci := 10) (v := .ref ((u 9))) (C := R_Deeds) (T := F_Deeds) (N := 8) hx hb htt iw_Deeds hown hK hP 10 xo_10 rfl 2 (Nat.le_of_ble_eq_true rfl) (htt _ lk_Deeds_22) (fun _ h9 => h9) xg_10_2 d_Deeds_isTrue_5 ?_
  refine lv_iload_n hx hb d_Deeds_isTrue_8 rfl (lv_at hl 1 rfl) ?_
  obtain ⟨r_2, h_1, hm⟩ := ob0_some hm
  have hFc := x_free0 hS hA
  refine va_calli (va_runV (As := [.int v1]) (rest := [.ref ((u 1))]) ⟨hx, hb, hml, hown, hts⟩ (x_Waiting_input l dC dI cI adK adV adA u o g s.heap.size n h_1) (cwV 1 hts (tw_GV tw_cons cw_Waiting_input lk_Deeds_62 in_Waiting_input sel_Waiting_input ini_Waiting) rfl rfl rfl ⟨rfl, hd_Waiting_input⟩ ⟨Nat.le_of_ble_eq_true rfl, Nat.le_of_ble_eq_true rfl⟩) (xpVr hK hP hS hE hFc xo_9 rfl) rfl rfl hl.1 rfl (lv_room (Nat.le_of_ble_eq_true rfl)) d_Deeds_isTrue_9 ⟨Nat.le_of_ble_eq_true rfl, Nat.le_of_ble_eq_true rfl⟩) hS (fun q _ h => hFc q h) hFc (fun r9 u9 t9 H locs ht hvm e9 hB hz1 hk1 hS => ?_)
  have e9 : r_2 = r9 := e9
  subst e9
  replace hP := x_keep hP hk1
  clear hFc hk1 hz1 hvm hB ht
  refine lv_aload_n hx hb d_Deeds_isTrue_12 rfl (lv_at hl 0 rfl) ?_
  refine va_get (D := (dC, dI)) (ci := 10) (v := .ref ((u 1))) (C := R_Deeds) (T := F_Deeds) (N := 8) hx hb htt iw_Deeds hown hK hP 10 xo_10 rfl 0 (Nat.le_of_ble_eq_true rfl) (htt _ lk_Deeds_15) (fun _ h9 => h9) xg_10_0 d_Deeds_isTrue_13 ?_
  refine va_get (D := (dC, dI)) (ci := 1) (v := .int (i 4)) (C := R_Heap) (T := F_Heap) (N := 12) hx hb htt iw_Heap hown hK hP 1 xo_1 rfl 1 (Nat.le_of_ble_eq_true rfl) (htt _ lk_Deeds_81) (fun _ h9 => h9) xg_1_1 d_Deeds_isTrue_16 ?_
  obtain ⟨r_4, h_3, hm⟩ := ob0_some hm
  have hFc := x_free0 hS hA
  refine va_calli (va_runV (As := [.int r_2, .int (i 4)]) (rest := []) ⟨hx, hb, hml, hown, hts⟩ (x_Heap_sameWord l dC dI cI adK adV adA u o g H.size n h_3) (cwV 2 hts (tw_GV tw_cons cw_Heap_sameWord lk_Deeds_84 in_Heap_sameWord sel_Heap_sameWord ini_Heap) rfl rfl rfl ⟨rfl, hd_Heap_sameWord⟩ ⟨Nat.le_of_ble_eq_true rfl, Nat.le_of_ble_eq_true rfl⟩) (xpVr hK hP hS hE hFc xo_1 rfl) rfl rfl hl.1 rfl (lv_room (Nat.le_of_ble_eq_true rfl)) d_Deeds_isTrue_19 ⟨Nat.le_of_ble_eq_true rfl, Nat.le_of_ble_eq_true rfl⟩) hS (fun q _ h => hFc q h) hFc (fun r9 u9 t9 H locs ht hvm e9 hB hz1 hk1 hS => ?_)
  have e9 : r_4 = r9 := e9
  subst e9
  replace hP := x_keep hP hk1
  clear hFc hk1 hz1 hvm hB ht
  obtain ⟨h_5, h_5f, hm⟩ := cb_some hm
  have e3 := re1 hm
  exact W.zret hx hb hr h_5 (fun t9 ht hW => ⟨⟨_, (), rfl, e3.symm, trivial⟩, hS.F ht⟩) hS.2.2 d_Deeds_isTrue_22

def m_Heap_alike_b28 (n : Nat) (g : Nat → Nat) (i : Nat → Int32) (a : Nat → Nat → Int32) (v1 : Int32) (v2 : Int32) : Option (Int32) := ob0 (m_Heap_isList n v1) (fun r_2 => if r_2 = ((0 : Int32)) then some 0 else ob0 (m_Heap_isList n v2) (fun r_5 => if r_5 = ((0 : Int32)) then some 0 else ob0 (m_Heap_count n g i a v1) (fun r_8 => ob0 (m_Heap_count n g i a v2) (fun r_10 => if r_8 = r_10 then ob0 (m_Heap_size n g i a v1) (fun r_13 => ob0 (m_Heap_size n g i a v2) (fun r_15 => if r_13 = r_15 then some 1 else some 0)) else some 0))))
set_option maxHeartbeats 4000000 in
set_option maxRecDepth 100000 in
theorem lb_Heap_alike_28 (l : Launch) (dC : Nat → ClassId) (dI : Nat → Nat → Nat) (cI : ClassId) (adK adV adA u o g : Nat → Nat) (n : Nat) {p : Program} {e : Env} {s : State} {m : MethodId} {args : Array Value} {below : List Frame} {meth : Method} {c : Code} {A : Nat → Prop} (hx : p.tables.exec = Jvm.exec) (hb : c.code = b_Heap_alike) (hml : c.maxLocals = 3) (hown : s.vm.findClass R_Heap = some m.cls) (hts : ∀ w ∈ w_Heap_alike, w.before args s = true) (hK : va_K (dC, dI) classes [(cI, .int)] s) (hE : tw_E adK adV adA A s s.heap) (hA : ∀ q : Nat, s.heap.size ≤ q → A q) (hr : meth.sig.returnType = (some .boolean)) (hlocks : meth.locks = false) {i : Nat → Int32} {a : Nat → Nat → Int32} {r2 : Int32} (v1 : Int32) (v2 : Int32) (hm : m_Heap_alike_b28 n g i a v1 v2 = some r2) : ∀ (H : Heap) (locs : List Loc) (ls : Array Slot), va_P (dC, dI) classes (TW cI u o i a g) H → va_S A s.heap H locs → lv_has ls 3 [(0, .ref ((u 1))), (1, .int v1), (2, .int v2)] → W p l e ({ frames := 1, cells := 0, slots := 0, locals := 26 } : Room) s m args below meth c H locs 0 0 (MQ below (va_Qi (xR r2) xT A) args s 0 0 A) (F0 m 28 ls []) := by
  have htt : ∀ w ∈ tw_T, w.before _ s = true := fun w h => hts w (List.mem_cons_of_mem _ h)
  intro H locs ls hP hS hl
  rw [m_Heap_alike_b28] at hm
  refine lv_iload_n hx hb d_Heap_alike_28 rfl (lv_at hl 1 rfl) ?_
  obtain ⟨r_2, h_1, hm⟩ := ob0_some hm
  have hFc := x_free0 hS hA
  refine va_calli (va_runS (As := [.int v1]) (rest := []) ⟨hx, hb, hml, hown, hts⟩ (x_Heap_isList l H.size n h_1) (va_cwS 1 hts (tw_GS tw_cons cw_Heap_isList lk_Heap_143 st_Heap_isList ini_Heap) rfl rfl rfl hd_Heap_isList ⟨Nat.le_of_ble_eq_true rfl, Nat.le_of_ble_eq_true rfl⟩) xpS0 rfl rfl hl.1 rfl (lv_room (Nat.le_of_ble_eq_true rfl)) d_Heap_alike_29 ⟨Nat.le_of_ble_eq_true rfl, Nat.le_of_ble_eq_true rfl⟩) hS (fun q _ h => hFc q h) hFc (fun r9 u9 t9 H locs ht hvm e9 hB hz1 hk1 hS => ?_)
  have e9 : r_2 = r9 := e9
  subst e9
  replace hP := x_keep hP hk1
  clear hFc hk1 hz1 hvm hB ht
  refine lv_if_eq (tgt := 72) hx hb d_Heap_alike_32 (by decide) (fun c_3 => ?_) (fun c_3 => ?_)
  · replace hm := if_t c_3 hm
    refine lv_iconst (v := 0) hx hb d_Heap_alike_72 (by decide) ?_
    have e3 := re1 hm
    exact W.zret hx hb hr (by decide) (fun t9 ht hW => ⟨⟨_, (), rfl, e3.symm, trivial⟩, hS.F ht⟩) hS.2.2 d_Heap_alike_73
  · replace hm := if_f c_3 hm
    refine lv_iload_n hx hb d_Heap_alike_35 rfl (lv_at hl 2 rfl) ?_
    obtain ⟨r_5, h_4, hm⟩ := ob0_some hm
    have hFc := x_free0 hS hA
    refine va_calli (va_runS (As := [.int v2]) (rest := []) ⟨hx, hb, hml, hown, hts⟩ (x_Heap_isList l H.size n h_4) (va_cwS 1 hts (tw_GS tw_cons cw_Heap_isList lk_Heap_143 st_Heap_isList ini_Heap) rfl rfl rfl hd_Heap_isList ⟨Nat.le_of_ble_eq_true rfl, Nat.le_of_ble_eq_true rfl⟩) xpS0 rfl rfl hl.1 rfl (lv_room (Nat.le_of_ble_eq_true rfl)) d_Heap_alike_36 ⟨Nat.le_of_ble_eq_true rfl, Nat.le_of_ble_eq_true rfl⟩) hS (fun q _ h => hFc q h) hFc (fun r9 u9 t9 H locs ht hvm e9 hB hz1 hk1 hS => ?_)
    have e9 : r_5 = r9 := e9
    subst e9
    replace hP := x_keep hP hk1
    clear hFc hk1 hz1 hvm hB ht
    refine lv_if_eq (tgt := 72) hx hb d_Heap_alike_39 (by decide) (fun c_6 => ?_) (fun c_6 => ?_)
    · replace hm := if_t c_6 hm
      refine lv_iconst (v := 0) hx hb d_Heap_alike_72 (by decide) ?_
      have e3 := re1 hm
      exact W.zret hx hb hr (by decide) (fun t9 ht hW => ⟨⟨_, (), rfl, e3.symm, trivial⟩, hS.F ht⟩) hS.2.2 d_Heap_alike_73
    · replace hm := if_f c_6 hm
      refine lv_aload_n hx hb d_Heap_alike_42 rfl (lv_at hl 0 rfl) ?_
      refine lv_iload_n hx hb d_Heap_alike_43 rfl (lv_at hl 1 rfl) ?_
      obtain ⟨r_8, h_7, hm⟩ := ob0_some hm
      have hFc := x_free0 hS hA
      refine va_calli (va_runV (As := [.int v1]) (rest := []) ⟨hx, hb, hml, hown, hts⟩ (x_Heap_count l dC dI cI adK adV adA u o g H.size n h_7) (cwV 1 hts (tw_GV tw_cons cw_Heap_count lk_Heap_125 in_Heap_count sel_Heap_count ini_Heap) rfl rfl rfl ⟨rfl, hd_Heap_count⟩ ⟨Nat.le_of_ble_eq_true rfl, Nat.le_of_ble_eq_true rfl⟩) (xpVr hK hP hS hE hFc xo_1 rfl) rfl rfl hl.1 rfl (lv_room (Nat.le_of_ble_eq_true rfl)) d_Heap_alike_44 ⟨Nat.le_of_ble_eq_true rfl, Nat.le_of_ble_eq_true rfl⟩) hS (fun q _ h => hFc q h) hFc (fun r9 u9 t9 H locs ht hvm e9 hB hz1 hk1 hS => ?_)
      have e9 : r_8 = r9 := e9
      subst e9
      replace hP := x_keep hP hk1
      clear hFc hk1 hz1 hvm hB ht
      refine lv_aload_n hx hb d_Heap_alike_47 rfl (lv_at hl 0 rfl) ?_
      refine lv_iload_n hx hb d_Heap_alike_48 rfl (lv_at hl 2 rfl) ?_
      obtain ⟨r_10, h_9, hm⟩ := ob0_some hm
      have hFc := x_free0 hS hA
      refine va_calli (va_runV (As := [.int v2]) (rest := [.int r_8]) ⟨hx, hb, hml, hown, hts⟩ (x_Heap_count l dC dI cI adK adV adA u o g H.size n h_9) (cwV 1 hts (tw_GV tw_cons cw_Heap_count lk_Heap_125 in_Heap_count sel_Heap_count ini_Heap) rfl rfl rfl ⟨rfl, hd_Heap_count⟩ ⟨Nat.le_of_ble_eq_true rfl, Nat.le_of_ble_eq_true rfl⟩) (xpVr hK hP hS hE hFc xo_1 rfl) rfl rfl hl.1 rfl (lv_room (Nat.le_of_ble_eq_true rfl)) d_Heap_alike_49 ⟨Nat.le_of_ble_eq_true rfl, Nat.le_of_ble_eq_true rfl⟩) hS (fun q _ h => hFc q h) hFc (fun r9 u9 t9 H locs ht hvm e9 hB hz1 hk1 hS => ?_)
      have e9 : r_10 = r9 := e9
      subst e9
      replace hP := x_keep hP hk1
      clear hFc hk1 hz1 hvm hB ht
      refine lv_icmp_ne (tgt := 72) hx hb d_Heap_alike_52 (by decide) (fun c_11 => ?_) (fun c_11 => ?_)
      · replace hm := if_f c_11 hm
        refine lv_iconst (v := 0) hx hb d_Heap_alike_72 (by decide) ?_
        have e3 := re1 hm
        exact W.zret hx hb hr (by decide) (fun t9 ht hW => ⟨⟨_, (), rfl, e3.symm, trivial⟩, hS.F ht⟩) hS.2.2 d_Heap_alike_73
      · replace hm := if_t c_11 hm
        refine lv_aload_n hx hb d_Heap_alike_55 rfl (lv_at hl 0 rfl) ?_
        refine lv_iload_n hx hb d_Heap_alike_56 rfl (lv_at hl 1 rfl) ?_
        obtain ⟨r_13, h_12, hm⟩ := ob0_some hm
        have hFc := x_free0 hS hA
        refine va_calli (va_runV (As := [.int v1]) (rest := []) ⟨hx, hb, hml, hown, hts⟩ (x_Heap_size l dC dI cI adK adV adA u o g H.size n h_12) (cwV 1 hts (tw_GV tw_cons cw_Heap_size lk_Heap_119 in_Heap_size sel_Heap_size ini_Heap) rfl rfl rfl ⟨rfl, hd_Heap_size⟩ ⟨Nat.le_of_ble_eq_true rfl, Nat.le_of_ble_eq_true rfl⟩) (xpVr hK hP hS hE hFc xo_1 rfl) rfl rfl hl.1 rfl (lv_room (Nat.le_of_ble_eq_true rfl)) d_Heap_alike_57 ⟨Nat.le_of_ble_eq_true rfl, Nat.le_of_ble_eq_true rfl⟩) hS (fun q _ h => hFc q h) hFc (fun r9 u9 t9 H locs ht hvm e9 hB hz1 hk1 hS => ?_)
        have e9 : r_13 = r9 := e9
        subst e9
        replace hP := x_keep hP hk1
        clear hFc hk1 hz1 hvm hB ht
        refine lv_aload_n hx hb d_Heap_alike_60 rfl (lv_at hl 0 rfl) ?_
        refine lv_iload_n hx hb d_Heap_alike_61 rfl (lv_at hl 2 rfl) ?_
        obtain ⟨r_15, h_14, hm⟩ := ob0_some hm
        have hFc := x_free0 hS hA
        refine va_calli (va_runV (As := [.int v2]) (rest := [.int r_13]) ⟨hx, hb, hml, hown, hts⟩ (x_Heap_size l dC dI cI adK adV adA u o g H.size n h_14) (cwV 1 hts (tw_GV tw_cons cw_Heap_size lk_Heap_119 in_Heap_size sel_Heap_size ini_Heap) rfl rfl rfl ⟨rfl, hd_Heap_size⟩ ⟨Nat.le_of_ble_eq_true rfl, Nat.le_of_ble_eq_true rfl⟩) (xpVr hK hP hS hE hFc xo_1 rfl) rfl rfl hl.1 rfl (lv_room (Nat.le_of_ble_eq_true rfl)) d_Heap_alike_62 ⟨Nat.le_of_ble_eq_true rfl, Nat.le_of_ble_eq_true rfl⟩) hS (fun q _ h => hFc q h) hFc (fun r9 u9 t9 H locs ht hvm e9 hB hz1 hk1 hS => ?_)
        have e9 : r_15 = r9 := e9
        subst e9
        replace hP := x_keep hP hk1
        clear hFc hk1 hz1 hvm hB ht
        refine lv_icmp_ne (tgt := 72) hx hb d_Heap_alike_65 (by decide) (fun c_16 => ?_) (fun c_16 => ?_)
        · replace hm := if_f c_16 hm
          refine lv_iconst (v := 0) hx hb d_Heap_alike_72 (by decide) ?_
          have e3 := re1 hm
          exact W.zret hx hb hr (by decide) (fun t9 ht hW => ⟨⟨_, (), rfl, e3.symm, trivial⟩, hS.F ht⟩) hS.2.2 d_Heap_alike_73
        · replace hm := if_t c_16 hm
          refine lv_iconst (v := 1) hx hb d_Heap_alike_68 (by decide) ?_
          refine lv_goto (tgt := 73) hx hb d_Heap_alike_69 (by decide) ?_
          have e3 := re1 hm
          exact W.zret hx hb hr (by decide) (fun t9 ht hW => ⟨⟨_, (), rfl, e3.symm, trivial⟩, hS.F ht⟩) hS.2.2 d_Heap_alike_73
def m_Heap_alike (n : Nat) (g : Nat → Nat) (i : Nat → Int32) (a : Nat → Nat → Int32) (v1 : Int32) (v2 : Int32) : Option (Int32) := if v1 = v2 then some 1 else ob0 (m_Heap_isWord n v1) (fun r_3 => if r_3 = ((0 : Int32)) then m_Heap_alike_b28 n g i a v1 v2 else ob0 (m_Heap_isWord n v2) (fun r_6 => if r_6 = ((0 : Int32)) then m_Heap_alike_b28 n g i a v1 v2 else ob0 (m_Heap_sameWord n g i a v1 v2) (fun r_9 => cb r_9 (some r_9))))
set_option maxHeartbeats 4000000 in
set_option maxRecDepth 100000 in
theorem x_Heap_alike (l : Launch) (dC : Nat → ClassId) (dI : Nat → Nat → Nat) (cI : ClassId) (adK adV adA u o g : Nat → Nat) (sz : Nat) (n : Nat) {i : Nat → Int32} {a : Nat → Nat → Int32} {v1 : Int32} {v2 : Int32} {r2 : Int32} (hm : m_Heap_alike n g i a v1 v2 = some r2) : Met l y_Heap_alike w_Heap_alike ({ frames := 1, cells := 0, slots := 0, locals := 26 } : Room) (va_Pc [.ref ((u 1)), .int v1, .int v2] (xEr dC dI cI adK adV adA u o g i a sz)) (va_Qi (xR r2) xT (xN sz)) 0 0 (xN sz) := by
  refine Met.ofW (cc := b_Heap_alike) (maxL := 3) (ret := (some .boolean)) (by decide) rfl ?_
  intro p e s m args below meth c s₁ B hml hv
  obtain ⟨rfl, hsz, hP, hK, hE⟩ := hv
  have hx := B.exec
  have hb := B.bytes
  have hr := B.returns
  have hts := atoms_spec (ws := w_Heap_alike) B.pre
  have htt : ∀ w ∈ tw_T, w.before _ s = true := fun w h => hts w (List.mem_cons_of_mem _ h)
  have hown : s.vm.findClass R_Heap = some m.cls := findClass_of_methodNamed B.named
  have hlocks := B.notSynchronized
  subst hsz
  generalize hAe : xN s.heap.size = A at hE ⊢
  have hA : ∀ q : Nat, s.heap.size ≤ q → A q := fun q h => by rw [← hAe]; exact Or.inr h
  have hS : va_S A s.heap s.heap [] := va_S.rf
  have hl := lv_entry ([.ref ((u 1)), .int v1, .int v2]) (n := 3) (Nat.le_of_ble_eq_true rfl)
  rw [lg_entry_eq]
  generalize (lg_sl ([.ref ((u 1)), .int v1, .int v2]) ++ List.replicate (3 - (lg_sl ([.ref ((u 1)), .int v1, .int v2])).length) Slot.unset).toArray = ls at hl ⊢
  have hl : lv_has ls 3 [(0, .ref ((u 1))), (1, .int v1), (2, .int v2)] := hl
  rw [m_Heap_alike] at hm
  refine lv_iload_n hx hb d_Heap_alike_0 rfl (lv_at hl 1 rfl) ?_
  refine lv_iload_n hx hb d_Heap_alike_1 rfl (lv_at hl 2 rfl) ?_
  refine lv_icmp_ne (tgt := 7) hx hb d_Heap_alike_2 (by decide) (fun c_1 => ?_) (fun c_1 => ?_)
  · replace hm := if_f c_1 hm
    refine lv_iload_n hx hb d_Heap_alike_7 rfl (lv_at hl 1 rfl) ?_
    obtain ⟨r_3, h_2, hm⟩ := ob0_some hm
    have hFc := x_free0 hS hA
    refine va_calli (va_runS (As := [.int v1]) (rest := []) ⟨hx, hb, hml, hown, hts⟩ (x_Heap_isWord l s.heap.size n h_2) (va_cwS 1 hts (tw_GS tw_cons cw_Heap_isWord lk_Heap_129 st_Heap_isWord ini_Heap) rfl rfl rfl hd_Heap_isWord ⟨Nat.le_of_ble_eq_true rfl, Nat.le_of_ble_eq_true rfl⟩) xpS0 rfl rfl hl.1 rfl (lv_room (Nat.le_of_ble_eq_true rfl)) d_Heap_alike_8 ⟨Nat.le_of_ble_eq_true rfl, Nat.le_of_ble_eq_true rfl⟩) hS (fun q _ h => hFc q h) hFc (fun r9 u9 t9 H locs ht hvm e9 hB hz1 hk1 hS => ?_)
    have e9 : r_3 = r9 := e9
    subst e9
    replace hP := x_keep hP hk1
    clear hFc hk1 hz1 hvm hB ht
    refine lv_if_eq (tgt := 28) hx hb d_Heap_alike_11 (by decide) (fun c_4 => ?_) (fun c_4 => ?_)
    · replace hm := if_t c_4 hm
      exact lb_Heap_alike_28 l dC dI cI adK adV adA u o g n hx hb hml hown hts hK hE hA hr hlocks _ _ hm _ _ _ hP hS (lv_sub hl [0, 1, 2] rfl)
    · replace hm := if_f c_4 hm
      refine lv_iload_n hx hb d_Heap_alike_14 rfl (lv_at hl 2 rfl) ?_
      obtain ⟨r_6, h_5, hm⟩ := ob0_some hm
      have hFc := x_free0 hS hA
      refine va_calli (va_runS (As := [.int v2]) (rest := []) ⟨hx, hb, hml, hown, hts⟩ (x_Heap_isWord l H.size n h_5) (va_cwS 1 hts (tw_GS tw_cons cw_Heap_isWord lk_Heap_129 st_Heap_isWord ini_Heap) rfl rfl rfl hd_Heap_isWord ⟨Nat.le_of_ble_eq_true rfl, Nat.le_of_ble_eq_true rfl⟩) xpS0 rfl rfl hl.1 rfl (lv_room (Nat.le_of_ble_eq_true rfl)) d_Heap_alike_15 ⟨Nat.le_of_ble_eq_true rfl, Nat.le_of_ble_eq_true rfl⟩) hS (fun q _ h => hFc q h) hFc (fun r9 u9 t9 H locs ht hvm e9 hB hz1 hk1 hS => ?_)
      have e9 : r_6 = r9 := e9
      subst e9
      replace hP := x_keep hP hk1
      clear hFc hk1 hz1 hvm hB ht
      refine lv_if_eq (tgt := 28) hx hb d_Heap_alike_18 (by decide) (fun c_7 => ?_) (fun c_7 => ?_)
      · replace hm := if_t c_7 hm
        exact lb_Heap_alike_28 l dC dI cI adK adV adA u o g n hx hb hml hown hts hK hE hA hr hlocks _ _ hm _ _ _ hP hS (lv_sub hl [0, 1, 2] rfl)
      · replace hm := if_f c_7 hm
        refine lv_aload_n hx hb d_Heap_alike_21 rfl (lv_at hl 0 rfl) ?_
        refine lv_iload_n hx hb d_Heap_alike_22 rfl (lv_at hl 1 rfl) ?_
        refine lv_iload_n hx hb d_Heap_alike_23 rfl (lv_at hl 2 rfl) ?_
        obtain ⟨r_9, h_8, hm⟩ := ob0_some hm
        have hFc := x_free0 hS hA
        refine va_calli (va_runV (As := [.int v1, .int v2]) (rest := []) ⟨hx, hb, hml, hown, hts⟩ (x_Heap_sameWord l dC dI cI adK adV adA u o g H.size n h_8) (cwV 2 hts (tw_GV tw_cons cw_Heap_sameWord lk_Heap_139 in_Heap_sameWord sel_Heap_sameWord ini_Heap) rfl rfl rfl ⟨rfl, hd_Heap_sameWord⟩ ⟨Nat.le_of_ble_eq_true rfl, Nat.le_of_ble_eq_true rfl⟩) (xpVr hK hP hS hE hFc xo_1 rfl) rfl rfl hl.1 rfl (lv_room (Nat.le_of_ble_eq_true rfl)) d_Heap_alike_24 ⟨Nat.le_of_ble_eq_true rfl, Nat.le_of_ble_eq_true rfl⟩) hS (fun q _ h => hFc q h) hFc (fun r9 u9 t9 H locs ht hvm e9 hB hz1 hk1 hS => ?_)
        have e9 : r_9 = r9 := e9
        subst e9
        replace hP := x_keep hP hk1
        clear hFc hk1 hz1 hvm hB ht
        obtain ⟨h_10, h_10f, hm⟩ := cb_some hm
        have e3 := re1 hm
        exact W.zret hx hb hr h_10 (fun t9 ht hW => ⟨⟨_, (), rfl, e3.symm, trivial⟩, hS.F ht⟩) hS.2.2 d_Heap_alike_27
  · replace hm := if_t c_1 hm
    refine lv_iconst (v := 1) hx hb d_Heap_alike_5 (by decide) ?_
    have e3 := re1 hm
    exact W.zret hx hb hr (by decide) (fun t9 ht hW => ⟨⟨_, (), rfl, e3.symm, trivial⟩, hS.F ht⟩) hS.2.2 d_Heap_alike_6

def m_Heap_putMember (n : Nat) (g : Nat → Nat) (i : Nat → Int32) (a : Nat → Nat → Int32) (v1 : Int32) (v2 : Int32) (v3 : Int32) : Option ((Nat → Int32) × (Nat → Nat → Int32) × Int32) := ob1 (((v1 >>> ((2 : Int32) &&& 31)) + 1) + v2 : Int32) (fun x_1 => if v2 < ((0 : Int32)) then some (i, a, (0 : Int32)) else ob0 (m_Heap_count n g i a v1) (fun r_4 => if r_4 ≤ v2 then some (i, a, (0 : Int32)) else if ((nI (g 0))) ≤ x_1 then some (i, a, (0 : Int32)) else ck x_1 (g 0) (ob1 (sv a 0 x_1.toNatClampNeg v3 : Nat → Nat → Int32) (fun a_8 => some (i, a_8, (0 : Int32))))))
set_option maxHeartbeats 4000000 in
set_option maxRecDepth 100000 in
theorem x_Heap_putMember (l : Launch) (dC : Nat → ClassId) (dI : Nat → Nat → Nat) (cI : ClassId) (adK adV adA u o g : Nat → Nat) (sz : Nat) (n : Nat) {i : Nat → Int32} {a : Nat → Nat → Int32} {v1 : Int32} {v2 : Int32} {v3 : Int32} {i2 : Nat → Int32} {a2 : Nat → Nat → Int32} {r2 : Int32} (hm : m_Heap_putMember n g i a v1 v2 v3 = some (i2, a2, r2)) : Met l y_Heap_putMember w_Heap_putMember ({ frames := 1, cells := 0, slots := 0, locals := 22 } : Room) (va_Pc [.ref ((u 1)), .int v1, .int v2, .int v3] (xE dC dI cI adK adV adA u o g i a sz)) (va_Qv xV (xB dC dI cI u o g i2 a2 (va_A (TW cI u o i a g) sz)) (va_A (TW cI u o i a g) sz)) 0 0 ((va_A (TW cI u o i a g) sz)) := by
  refine Met.ofW (cc := b_Heap_putMember) (maxL := 5) (ret := none) (by decide) rfl ?_
  intro p e s m args below meth c s₁ B hml hv
  obtain ⟨rfl, hsz, hP, hK, hE, hD0⟩ := hv
  have hx := B.exec
  have hb := B.bytes
  have hr := B.returns
  have hts := atoms_spec (ws := w_Heap_putMember) B.pre
  have htt : ∀ w ∈ tw_T, w.before _ s = true := fun w h => hts w (List.mem_cons_of_mem _ h)
  have hown : s.vm.findClass R_Heap = some m.cls := findClass_of_methodNamed B.named
  have hlocks := B.notSynchronized
  subst hsz
  have hD := hD0.self (sz := s.heap.size)
  generalize hAe : (va_A (TW cI u o i a g) s.heap.size) = A at hD hE ⊢
  have hA : ∀ q : Nat, s.heap.size ≤ q → A q := fun q h => by rw [← hAe]; exact Or.inr h
  have hS : va_S A s.heap s.heap [] := va_S.rf
  have hl := lv_entry ([.ref ((u 1)), .int v1, .int v2, .int v3]) (n := 5) (Nat.le_of_ble_eq_true rfl)
  rw [lg_entry_eq]
  generalize (lg_sl ([.ref ((u 1)), .int v1, .int v2, .int v3]) ++ List.replicate (5 - (lg_sl ([.ref ((u 1)), .int v1, .int v2, .int v3])).length) Slot.unset).toArray = ls at hl ⊢
  have hl : lv_has ls 5 [(0, .ref ((u 1))), (1, .int v1), (2, .int v2), (3, .int v3)] := hl
  rw [m_Heap_putMember] at hm
  refine lv_iload_n hx hb d_Heap_putMember_0 rfl (lv_at hl 1 rfl) ?_
  refine lv_iconst (v := 2) hx hb d_Heap_putMember_1 (by decide) ?_
  refine lv_ishr hx hb d_Heap_putMember_2 ?_
  refine lv_iconst (v := 1) hx hb d_Heap_putMember_3 (by decide) ?_
  refine lv_iadd hx hb d_Heap_putMember_4 ?_
  refine lv_iload_n hx hb d_Heap_putMember_5 rfl (lv_at hl 2 rfl) ?_
  refine lv_iadd hx hb d_Heap_putMember_6 ?_
  refine lv_topi (fun x_1 ex_1 => ?_)
  replace hm := ob1_at ex_1 hm
  refine lv_istore (lv' := [(4, .int x_1), (0, .ref ((u 1))), (1, .int v1), (2, .int v2), (3, .int v3)]) hx hb d_Heap_putMember_7 hl (by decide) rfl (fun ls hl => ?_)
  refine lv_iload_n hx hb d_Heap_putMember_9 rfl (lv_at hl 3 rfl) ?_
  refine lv_if_lt (tgt := 40) hx hb d_Heap_putMember_10 (by decide) (fun c_2 => ?_) (fun c_2 => ?_)
  · replace hm := if_t c_2 hm
    obtain ⟨e1i, e1a, e3⟩ := re3 hm
    obtain ⟨hP, hD⟩ := x_eq e1i e1a hP hD
    exact W.vret hx hb hr (fun t9 ht hW => ⟨⟨(), rfl, trivial, by rw [ht]; exact hP, hD⟩, hS.F ht⟩) hS.2.2 d_Heap_putMember_40
  · replace hm := if_f c_2 hm
    refine lv_iload_n hx hb d_Heap_putMember_13 rfl (lv_at hl 3 rfl) ?_
    refine lv_aload_n hx hb d_Heap_putMember_14 rfl (lv_at hl 1 rfl) ?_
    refine lv_iload_n hx hb d_Heap_putMember_15 rfl (lv_at hl 2 rfl) ?_
    obtain ⟨r_4, h_3, hm⟩ := ob0_some hm
    have hFc := x_free0 hS hA
    refine va_calli (va_runV (As := [.int v1]) (rest := [.int v2]) ⟨hx, hb, hml, hown, hts⟩ (x_Heap_count l dC dI cI adK adV adA u o g s.heap.size n h_3) (cwV 1 hts (tw_GV tw_cons cw_Heap_count lk_Heap_125 in_Heap_count sel_Heap_count ini_Heap) rfl rfl rfl ⟨rfl, hd_Heap_count⟩ ⟨Nat.le_of_ble_eq_true rfl, Nat.le_of_ble_eq_true rfl⟩) (xpVr hK hP hS hE hFc xo_1 rfl) rfl rfl hl.1 rfl (lv_room (Nat.le_of_ble_eq_true rfl)) d_Heap_putMember_16 ⟨Nat.le_of_ble_eq_true rfl, Nat.le_of_ble_eq_true rfl⟩) hS (fun q _ h => hFc q h) hFc (fun r9 u9 t9 H locs ht hvm e9 hB hz1 hk1 hS => ?_)
    have e9 : r_4 = r9 := e9
    subst e9
    replace hP := x_keep hP hk1
    clear hFc hk1 hz1 hvm hB ht
    refine lv_icmp_ge (tgt := 40) hx hb d_Heap_putMember_19 (by decide) (fun c_5 => ?_) (fun c_5 => ?_)
    · replace hm := if_t c_5 hm
      obtain ⟨e1i, e1a, e3⟩ := re3 hm
      obtain ⟨hP, hD⟩ := x_eq e1i e1a hP hD
      exact W.vret hx hb hr (fun t9 ht hW => ⟨⟨(), rfl, trivial, by rw [ht]; exact hP, hD⟩, hS.F ht⟩) hS.2.2 d_Heap_putMember_40
    · replace hm := if_f c_5 hm
      refine lv_iload hx hb d_Heap_putMember_22 (lv_at hl 0 rfl) ?_
      refine lv_aload_n hx hb d_Heap_putMember_24 rfl (lv_at hl 1 rfl) ?_
      refine va_get (D := (dC, dI)) (ci := 1) (v := .ref ((o 0))) (C := R_Heap) (T := F_Heap) (N := 12) hx hb htt iw_Heap hown hK hP 1 xo_1 rfl 5 (Nat.le_of_ble_eq_true rfl) (htt _ lk_Heap_11) (fun _ h9 => h9) xg_1_5 d_Heap_putMember_25 ?_
      refine va_alen (v := nI (g 0)) hx hb hK hP 12 0 twA_0 rfl rfl d_Heap_putMember_28 ?_
      refine lv_icmp_ge (tgt := 40) hx hb d_Heap_putMember_29 (by decide) (fun c_6 => ?_) (fun c_6 => ?_)
      · replace hm := if_t c_6 hm
        obtain ⟨e1i, e1a, e3⟩ := re3 hm
        obtain ⟨hP, hD⟩ := x_eq e1i e1a hP hD
        exact W.vret hx hb hr (fun t9 ht hW => ⟨⟨(), rfl, trivial, by rw [ht]; exact hP, hD⟩, hS.F ht⟩) hS.2.2 d_Heap_putMember_40
      · replace hm := if_f c_6 hm
        refine lv_aload_n hx hb d_Heap_putMember_32 rfl (lv_at hl 1 rfl) ?_
        refine va_get (D := (dC, dI)) (ci := 1) (v := .ref ((o 0))) (C := R_Heap) (T := F_Heap) (N := 12) hx hb htt iw_Heap hown hK hP 1 xo_1 rfl 5 (Nat.le_of_ble_eq_true rfl) (htt _ lk_Heap_11) (fun _ h9 => h9) xg_1_5 d_Heap_putMember_33 ?_
        refine lv_iload hx hb d_Heap_putMember_36 (lv_at hl 0 rfl) ?_
        refine lv_iload_n hx hb d_Heap_putMember_38 rfl (lv_at hl 4 rfl) ?_
        obtain ⟨h_7, hm⟩ := ck_some hm
        refine va_iast hx hb hK hP hD hS 12 0 twA_0 rfl h_7 d_Heap_putMember_39 (fun H locs hP hD hS => ?_)
        obtain ⟨a_8, ea_8⟩ : ∃ y9 : Nat → Nat → Int32, y9 = sv a 0 x_1.toNatClampNeg v3 := ⟨_, rfl⟩
        replace hm := ob1_at ea_8 hm
        obtain ⟨hP, hD⟩ := xv_0 ea_8 hP hD
        obtain ⟨e1i, e1a, e3⟩ := re3 hm
        obtain ⟨hP, hD⟩ := x_eq e1i e1a hP hD
        exact W.vret hx hb hr (fun t9 ht hW => ⟨⟨(), rfl, trivial, by rw [ht]; exact hP, hD⟩, hS.F ht⟩) hS.2.2 d_Heap_putMember_40

def m_Heap_copyLetters_a28_b23 (n : Nat) (g : Nat → Nat) : Nat → (Nat → Int32) → (Nat → Nat → Int32) → Int32 → Int32 → Int32 → Option ((Nat → Int32) × (Nat → Nat → Int32) × Int32)
  | 0, _, _, _, _, _ => none
  | f + 1, i, a, v3, v5, v6 => if ((nI (g 0))) ≤ v6 then some (i, a, v5) else ck v6 (g 0) (if ((a 0 v6.toNatClampNeg)) = ((0 : Int32)) then some (i, a, v5) else if ((nI 8192)) ≤ ((v3 + v5)) then some (i, a, v5) else ck v6 (g 0) (ck ((v3 + v5)) 8192 (ob1 (sv a 28 (v3 + v5).toNatClampNeg (a 0 v6.toNatClampNeg) : Nat → Nat → Int32) (fun a_7 => ob1 (v5 + 1 : Int32) (fun x_8 => ob1 (v6 + 1 : Int32) (fun x_9 => m_Heap_copyLetters_a28_b23 n g f i a_7 v3 x_8 x_9))))))
set_option maxHeartbeats 4000000 in
set_option maxRecDepth 100000 in
theorem lb_Heap_copyLetters_a28_23 (l : Launch) (dC : Nat → ClassId) (dI : Nat → Nat → Nat) (cI : ClassId) (adK adV adA u o g : Nat → Nat) (n : Nat) {p : Program} {e : Env} {s : State} {m : MethodId} {args : Array Value} {below : List Frame} {meth : Method} {c : Code} {A : Nat → Prop} (hx : p.tables.exec = Jvm.exec) (hb : c.code = b_Heap_copyLetters) (hml : c.maxLocals = 7) (hown : s.vm.findClass R_Heap = some m.cls) (hts : ∀ w ∈ w_Heap_copyLetters, w.before args s = true) (hK : va_K (dC, dI) classes [(cI, .int)] s) (hE : tw_E adK adV adA A s s.heap) (hA : ∀ q : Nat, s.heap.size ≤ q → A q) (hr : meth.sig.returnType = (some .int)) (hlocks : meth.locks = false) {i2 : Nat → Int32} {a2 : Nat → Nat → Int32} {r2 : Int32} : ∀ (f : Nat) (i : Nat → Int32) (a : Nat → Nat → Int32) (v3 : Int32) (v5 : Int32) (v6 : Int32), m_Heap_copyLetters_a28_b23 n g f i a v3 v5 v6 = some (i2, a2, r2) → ∀ (H : Heap) (locs : List Loc) (ls : Array Slot), va_P (dC, dI) classes (TW cI u o i a g) H → va_D A (TW cI u o i a g) → va_S A s.heap H locs → lv_has ls 7 [(0, .ref ((u 1))), (2, .ref ((u 38))), (3, .int v3), (5, .int v5), (6, .int v6)] → W p l e ({ frames := 0, cells := 0, slots := 0, locals := 0 } : Room) s m args below meth c H locs 0 0 (MQ below (va_Qi (xR r2) (xB dC dI cI u o g i2 a2 A) A) args s 0 0 A) (F0 m 23 ls []) := by
  have htt : ∀ w ∈ tw_T, w.before _ s = true := fun w h => hts w (List.mem_cons_of_mem _ h)
  intro f
  induction f with
  | zero =>
    intro i a v3 v5 v6 hm
    rw [m_Heap_copyLetters_a28_b23] at hm
    cases hm
  | succ f ih =>
    intro i a v3 v5 v6 hm H locs ls hP hD hS hl
    rw [m_Heap_copyLetters_a28_b23] at hm
    refine lv_iload hx hb d_Heap_copyLetters_23 (lv_at hl 4 rfl) ?_
    refine lv_aload_n hx hb d_Heap_copyLetters_25 rfl (lv_at hl 0 rfl) ?_
    refine va_get (D := (dC, dI)) (ci := 1) (v := .ref ((o 0))) (C := R_Heap) (T := F_Heap) (N := 12) hx hb htt iw_Heap hown hK hP 1 xo_1 rfl 5 (Nat.le_of_ble_eq_true rfl) (htt _ lk_Heap_11) (fun _ h9 => h9) xg_1_5 d_Heap_copyLetters_26 ?_
    refine va_alen (v := nI (g 0)) hx hb hK hP 12 0 twA_0 rfl rfl d_Heap_copyLetters_29 ?_
    refine lv_icmp_ge (tgt := 74) hx hb d_Heap_copyLetters_30 (by decide) (fun c_1 => ?_) (fun c_1 => ?_)
    · replace hm := if_t c_1 hm
      refine lv_iload hx hb d_Heap_copyLetters_74 (lv_at hl 3 rfl) ?_
      obtain ⟨e1i, e1a, e3⟩ := re3 hm
      obtain ⟨hP, hD⟩ := x_eq e1i e1a hP hD
      exact W.iret hx hb hr (fun t9 ht hW => ⟨⟨_, (), rfl, e3.symm, by rw [ht]; exact hP, hD⟩, hS.F ht⟩) hS.2.2 d_Heap_copyLetters_76
    · replace hm := if_f c_1 hm
      refine lv_aload_n hx hb d_Heap_copyLetters_33 rfl (lv_at hl 0 rfl) ?_
      refine va_get (D := (dC, dI)) (ci := 1) (v := .ref ((o 0))) (C := R_Heap) (T := F_Heap) (N := 12) hx hb htt iw_Heap hown hK hP 1 xo_1 rfl 5 (Nat.le_of_ble_eq_true rfl) (htt _ lk_Heap_11) (fun _ h9 => h9) xg_1_5 d_Heap_copyLetters_34 ?_
      refine lv_iload hx hb d_Heap_copyLetters_37 (lv_at hl 4 rfl) ?_
      obtain ⟨h_2, hm⟩ := ck_some hm
      refine va_iald hx hb hK hP 12 0 twA_0 rfl h_2 d_Heap_copyLetters_39 ?_
      refine lv_if_eq (tgt := 74) hx hb d_Heap_copyLetters_40 (by decide) (fun c_3 => ?_) (fun c_3 => ?_)
      · replace hm := if_t c_3 hm
        refine lv_iload hx hb d_Heap_copyLetters_74 (lv_at hl 3 rfl) ?_
        obtain ⟨e1i, e1a, e3⟩ := re3 hm
        obtain ⟨hP, hD⟩ := x_eq e1i e1a hP hD
        exact W.iret hx hb hr (fun t9 ht hW => ⟨⟨_, (), rfl, e3.symm, by rw [ht]; exact hP, hD⟩, hS.F ht⟩) hS.2.2 d_Heap_copyLetters_76
      · replace hm := if_f c_3 hm
        refine lv_iload_n hx hb d_Heap_copyLetters_43 rfl (lv_at hl 2 rfl) ?_
        refine lv_iload hx hb d_Heap_copyLetters_44 (lv_at hl 3 rfl) ?_
        refine lv_iadd hx hb d_Heap_copyLetters_46 ?_
        refine lv_aload_n hx hb d_Heap_copyLetters_47 rfl (lv_at hl 1 rfl) ?_
        refine va_alen (v := nI 8192) hx hb hK hP 40 0 twA_28 rfl rfl d_Heap_copyLetters_48 ?_
        refine lv_icmp_ge (tgt := 74) hx hb d_Heap_copyLetters_49 (by decide) (fun c_4 => ?_) (fun c_4 => ?_)
        · replace hm := if_t c_4 hm
          refine lv_iload hx hb d_Heap_copyLetters_74 (lv_at hl 3 rfl) ?_
          obtain ⟨e1i, e1a, e3⟩ := re3 hm
          obtain ⟨hP, hD⟩ := x_eq e1i e1a hP hD
          exact W.iret hx hb hr (fun t9 ht hW => ⟨⟨_, (), rfl, e3.symm, by rw [ht]; exact hP, hD⟩, hS.F ht⟩) hS.2.2 d_Heap_copyLetters_76
        · replace hm := if_f c_4 hm
          refine lv_aload_n hx hb d_Heap_copyLetters_52 rfl (lv_at hl 1 rfl) ?_
          refine lv_iload_n hx hb d_Heap_copyLetters_53 rfl (lv_at hl 2 rfl) ?_
          refine lv_iload hx hb d_Heap_copyLetters_54 (lv_at hl 3 rfl) ?_
          refine lv_iadd hx hb d_Heap_copyLetters_56 ?_
          refine lv_aload_n hx hb d_Heap_copyLetters_57 rfl (lv_at hl 0 rfl) ?_
          refine va_get (D := (dC, dI)) (ci := 1) (v := .ref ((o 0))) (C := R_Heap) (T := F_Heap) (N := 12) hx hb htt iw_Heap hown hK hP 1 xo_1 rfl 5 (Nat.le_of_ble_eq_true rfl) (htt _ lk_Heap_11) (fun _ h9 => h9) xg_1_5 d_Heap_copyLetters_58 ?_
          refine lv_iload hx hb d_Heap_copyLetters_61 (lv_at hl 4 rfl) ?_
          obtain ⟨h_5, hm⟩ := ck_some hm
          refine va_iald hx hb hK hP 12 0 twA_0 rfl h_5 d_Heap_copyLetters_63 ?_
          obtain ⟨h_6, hm⟩ := ck_some hm
          refine va_iast hx hb hK hP hD hS 40 0 twA_28 rfl h_6 d_Heap_copyLetters_64 (fun H locs hP hD hS => ?_)
          obtain ⟨a_7, ea_7⟩ : ∃ y9 : Nat → Nat → Int32, y9 = sv a 28 (v3 + v5).toNatClampNeg (a 0 v6.toNatClampNeg) := ⟨_, rfl⟩
          replace hm := ob1_at ea_7 hm
          obtain ⟨hP, hD⟩ := xv_28 ea_7 hP hD
          obtain ⟨x_8, ex_8⟩ : ∃ y9 : Int32, y9 = v5 + 1 := ⟨_, rfl⟩
          replace hm := ob1_at ex_8 hm
          refine lv_iinc (v := x_8) (lv' := [(5, .int x_8), (0, .ref ((u 1))), (2, .ref ((u 38))), (3, .int v3), (6, .int v6)]) hx hb d_Heap_copyLetters_65 hl (k := 3) rfl (by rw [ex_8]; rfl) (by decide) rfl (fun ls hl => ?_)
          obtain ⟨x_9, ex_9⟩ : ∃ y9 : Int32, y9 = v6 + 1 := ⟨_, rfl⟩
          replace hm := ob1_at ex_9 hm
          refine lv_iinc (v := x_9) (lv' := [(6, .int x_9), (5, .int x_8), (0, .ref ((u 1))), (2, .ref ((u 38))), (3, .int v3)]) hx hb d_Heap_copyLetters_68 hl (k := 4) rfl (by rw [ex_9]; rfl) (by decide) rfl (fun ls hl => ?_)
          refine lv_goto (tgt := 23) hx hb d_Heap_copyLetters_71 (by decide) ?_
          exact ih _ _ _ _ _ hm _ _ _ hP hD hS (lv_sub hl [2, 3, 4, 1, 0] rfl)
def m_Heap_copyLetters_a28 (n : Nat) (g : Nat → Nat) (i : Nat → Int32) (a : Nat → Nat → Int32) (v1 : Int32) (v3 : Int32) : Option ((Nat → Int32) × (Nat → Nat → Int32) × Int32) := ob1 (v1 >>> ((2 : Int32) &&& 31) : Int32) (fun x_1 => if x_1 ≤ ((0 : Int32)) then some (i, a, 0) else if ((0 : Int32)) ≤ v3 then m_Heap_copyLetters_a28_b23 n g n i a v3 (0 : Int32) x_1 else some (i, a, 0))
set_option maxHeartbeats 4000000 in
set_option maxRecDepth 100000 in
theorem x_Heap_copyLetters_a28 (l : Launch) (dC : Nat → ClassId) (dI : Nat → Nat → Nat) (cI : ClassId) (adK adV adA u o g : Nat → Nat) (sz : Nat) (n : Nat) {i : Nat → Int32} {a : Nat → Nat → Int32} {v1 : Int32} {v3 : Int32} {i2 : Nat → Int32} {a2 : Nat → Nat → Int32} {r2 : Int32} (hm : m_Heap_copyLetters_a28 n g i a v1 v3 = some (i2, a2, r2)) : Met l y_Heap_copyLetters w_Heap_copyLetters ({ frames := 0, cells := 0, slots := 0, locals := 0 } : Room) (va_Pc [.ref ((u 1)), .int v1, .ref ((u 38)), .int v3] (xE dC dI cI adK adV adA u o g i a sz)) (va_Qi (xR r2) (xB dC dI cI u o g i2 a2 (va_A (TW cI u o i a g) sz)) (va_A (TW cI u o i a g) sz)) 0 0 ((va_A (TW cI u o i a g) sz)) := by
  refine Met.ofW (cc := b_Heap_copyLetters) (maxL := 7) (ret := (some .int)) (by decide) rfl ?_
  intro p e s m args below meth c s₁ B hml hv
  obtain ⟨rfl, hsz, hP, hK, hE, hD0⟩ := hv
  have hx := B.exec
  have hb := B.bytes
  have hr := B.returns
  have hts := atoms_spec (ws := w_Heap_copyLetters) B.pre
  have htt : ∀ w ∈ tw_T, w.before _ s = true := fun w h => hts w (List.mem_cons_of_mem _ h)
  have hown : s.vm.findClass R_Heap = some m.cls := findClass_of_methodNamed B.named
  have hlocks := B.notSynchronized
  subst hsz
  have hD := hD0.self (sz := s.heap.size)
  generalize hAe : (va_A (TW cI u o i a g) s.heap.size) = A at hD hE ⊢
  have hA : ∀ q : Nat, s.heap.size ≤ q → A q := fun q h => by rw [← hAe]; exact Or.inr h
  have hS : va_S A s.heap s.heap [] := va_S.rf
  have hl := lv_entry ([.ref ((u 1)), .int v1, .ref ((u 38)), .int v3]) (n := 7) (Nat.le_of_ble_eq_true rfl)
  rw [lg_entry_eq]
  generalize (lg_sl ([.ref ((u 1)), .int v1, .ref ((u 38)), .int v3]) ++ List.replicate (7 - (lg_sl ([.ref ((u 1)), .int v1, .ref ((u 38)), .int v3])).length) Slot.unset).toArray = ls at hl ⊢
  have hl : lv_has ls 7 [(0, .ref ((u 1))), (1, .int v1), (2, .ref ((u 38))), (3, .int v3)] := hl
  rw [m_Heap_copyLetters_a28] at hm
  refine lv_iload_n hx hb d_Heap_copyLetters_0 rfl (lv_at hl 1 rfl) ?_
  refine lv_iconst (v := 2) hx hb d_Heap_copyLetters_1 (by decide) ?_
  refine lv_ishr hx hb d_Heap_copyLetters_2 ?_
  refine lv_topi (fun x_1 ex_1 => ?_)
  replace hm := ob1_at ex_1 hm
  refine lv_istore (lv' := [(4, .int x_1), (0, .ref ((u 1))), (1, .int v1), (2, .ref ((u 38))), (3, .int v3)]) hx hb d_Heap_copyLetters_3 hl (by decide) rfl (fun ls hl => ?_)
  refine lv_iconst (v := 0) hx hb d_Heap_copyLetters_5 (by decide) ?_
  refine lv_istore (lv' := [(5, .int 0), (4, .int x_1), (0, .ref ((u 1))), (1, .int v1), (2, .ref ((u 38))), (3, .int v3)]) hx hb d_Heap_copyLetters_6 hl (by decide) rfl (fun ls hl => ?_)
  refine lv_iload hx hb d_Heap_copyLetters_8 (lv_at hl 1 rfl) ?_
  refine lv_if_le (tgt := 17) hx hb d_Heap_copyLetters_10 (by decide) (fun c_2 => ?_) (fun c_2 => ?_)
  · replace hm := if_t c_2 hm
    refine lv_iconst (v := 0) hx hb d_Heap_copyLetters_17 (by decide) ?_
    obtain ⟨e1i, e1a, e3⟩ := re3 hm
    obtain ⟨hP, hD⟩ := x_eq e1i e1a hP hD
    exact W.iret hx hb hr (fun t9 ht hW => ⟨⟨_, (), rfl, e3.symm, by rw [ht]; exact hP, hD⟩, hS.F ht⟩) hS.2.2 d_Heap_copyLetters_18
  · replace hm := if_f c_2 hm
    refine lv_iload_n hx hb d_Heap_copyLetters_13 rfl (lv_at hl 5 rfl) ?_
    refine lv_if_ge (tgt := 19) hx hb d_Heap_copyLetters_14 (by decide) (fun c_3 => ?_) (fun c_3 => ?_)
    · replace hm := if_t c_3 hm
      refine lv_iload hx hb d_Heap_copyLetters_19 (lv_at hl 1 rfl) ?_
      refine lv_istore (lv' := [(6, .int x_1), (5, .int 0), (4, .int x_1), (0, .ref ((u 1))), (1, .int v1), (2, .ref ((u 38))), (3, .int v3)]) hx hb d_Heap_copyLetters_21 hl (by decide) rfl (fun ls hl => ?_)
      exact lb_Heap_copyLetters_a28_23 l dC dI cI adK adV adA u o g n hx hb hml hown hts hK hE hA hr hlocks n _ _ _ _ _ hm _ _ _ hP hD hS (lv_sub hl [3, 5, 6, 1, 0] rfl)
    · replace hm := if_f c_3 hm
      refine lv_iconst (v := 0) hx hb d_Heap_copyLetters_17 (by decide) ?_
      obtain ⟨e1i, e1a, e3⟩ := re3 hm
      obtain ⟨hP, hD⟩ := x_eq e1i e1a hP hD
      exact W.iret hx hb hr (fun t9 ht hW => ⟨⟨_, (), rfl, e3.symm, by rw [ht]; exact hP, hD⟩, hS.F ht⟩) hS.2.2 d_Heap_copyLetters_18

def m_Output_addPlain_b84 (n : Nat) (g : Nat → Nat) : Nat → (Nat → Int32) → (Nat → Nat → Int32) → Int32 → Int32 → Int32 → Option ((Nat → Int32) × (Nat → Nat → Int32) × Int32)
  | 0, _, _, _, _, _ => none
  | f + 1, i, a, v2, v3, v4 => if ((10 : Int32)) ≤ v4 then some (i, a, (0 : Int32)) else if v3 ≤ ((0 : Int32)) then some (i, a, (0 : Int32)) else cz v3 (ob (m_Output_add n g i a (48 + ((v2 / v3) - (v2 / v3) / 10 * 10))) (fun i_5 a_6 r_7 => ob1 (v3 / 10 : Int32) (fun x_8 => ob1 (v4 + 1 : Int32) (fun x_9 => m_Output_addPlain_b84 n g f i_5 a_6 v2 x_8 x_9))))
set_option maxHeartbeats 4000000 in
set_option maxRecDepth 100000 in
theorem lb_Output_addPlain_84 (l : Launch) (dC : Nat → ClassId) (dI : Nat → Nat → Nat) (cI : ClassId) (adK adV adA u o g : Nat → Nat) (n : Nat) {p : Program} {e : Env} {s : State} {m : MethodId} {args : Array Value} {below : List Frame} {meth : Method} {c : Code} {A : Nat → Prop} (hx : p.tables.exec = Jvm.exec) (hb : c.code = b_Output_addPlain) (hml : c.maxLocals = 5) (hown : s.vm.findClass R_Output = some m.cls) (hts : ∀ w ∈ w_Output_addPlain, w.before args s = true) (hK : va_K (dC, dI) classes [(cI, .int)] s) (hE : tw_E adK adV adA A s s.heap) (hA : ∀ q : Nat, s.heap.size ≤ q → A q) (hr : meth.sig.returnType = none) (hlocks : meth.locks = false) {i2 : Nat → Int32} {a2 : Nat → Nat → Int32} {r2 : Int32} : ∀ (f : Nat) (i : Nat → Int32) (a : Nat → Nat → Int32) (v2 : Int32) (v3 : Int32) (v4 : Int32), m_Output_addPlain_b84 n g f i a v2 v3 v4 = some (i2, a2, r2) → ∀ (H : Heap) (locs : List Loc) (ls : Array Slot), va_P (dC, dI) classes (TW cI u o i a g) H → va_D A (TW cI u o i a g) → va_S A s.heap H locs → lv_has ls 5 [(0, .ref ((u 6))), (2, .int v2), (3, .int v3), (4, .int v4)] → W p l e ({ frames := 1, cells := 0, slots := 0, locals := 26 } : Room) s m args below meth c H locs 0 0 (MQ below (va_Qv xV (xB dC dI cI u o g i2 a2 A) A) args s 0 0 A) (F0 m 84 ls []) := by
  have htt : ∀ w ∈ tw_T, w.before _ s = true := fun w h => hts w (List.mem_cons_of_mem _ h)
  intro f
  induction f with
  | zero =>
    intro i a v2 v3 v4 hm
    rw [m_Output_addPlain_b84] at hm
    cases hm
  | succ f ih =>
    intro i a v2 v3 v4 hm H locs ls hP hD hS hl
    rw [m_Output_addPlain_b84] at hm
    refine lv_iload hx hb d_Output_addPlain_84 (lv_at hl 3 rfl) ?_
    refine lv_bipush (v := 10) hx hb d_Output_addPlain_86 (by decide) ?_
    refine lv_icmp_ge (tgt := 119) hx hb d_Output_addPlain_88 (by decide) (fun c_1 => ?_) (fun c_1 => ?_)
    · replace hm := if_t c_1 hm
      obtain ⟨e1i, e1a, e3⟩ := re3 hm
      obtain ⟨hP, hD⟩ := x_eq e1i e1a hP hD
      exact W.vret hx hb hr (fun t9 ht hW => ⟨⟨(), rfl, trivial, by rw [ht]; exact hP, hD⟩, hS.F ht⟩) hS.2.2 d_Output_addPlain_119
    · replace hm := if_f c_1 hm
      refine lv_iload_n hx hb d_Output_addPlain_91 rfl (lv_at hl 2 rfl) ?_
      refine lv_if_le (tgt := 119) hx hb d_Output_addPlain_92 (by decide) (fun c_2 => ?_) (fun c_2 => ?_)
      · replace hm := if_t c_2 hm
        obtain ⟨e1i, e1a, e3⟩ := re3 hm
        obtain ⟨hP, hD⟩ := x_eq e1i e1a hP hD
        exact W.vret hx hb hr (fun t9 ht hW => ⟨⟨(), rfl, trivial, by rw [ht]; exact hP, hD⟩, hS.F ht⟩) hS.2.2 d_Output_addPlain_119
      · replace hm := if_f c_2 hm
        refine lv_aload_n hx hb d_Output_addPlain_95 rfl (lv_at hl 0 rfl) ?_
        refine lv_bipush (v := 48) hx hb d_Output_addPlain_96 (by decide) ?_
        refine lv_iload_n hx hb d_Output_addPlain_98 rfl (lv_at hl 1 rfl) ?_
        refine lv_iload_n hx hb d_Output_addPlain_99 rfl (lv_at hl 2 rfl) ?_
        obtain ⟨h_3, hm⟩ := cz_some hm
        refine lv_idiv hx hb d_Output_addPlain_100 (h_3) ?_
        refine lv_bipush (v := 10) hx hb d_Output_addPlain_101 (by decide) ?_
        refine lv_irem hx hb d_Output_addPlain_103 (by decide) ?_
        refine lv_iadd hx hb d_Output_addPlain_104 ?_
        obtain ⟨i_5, a_6, r_7, h_4, hm⟩ := ob_some hm
        have hFc := x_free hD hS hA
        refine va_callv (va_runV (As := [.int (48 + ((v2 / v3) - (v2 / v3) / 10 * 10))]) (rest := []) ⟨hx, hb, hml, hown, hts⟩ (x_Output_add l dC dI cI adK adV adA u o g H.size n h_4) (cwV 1 hts (tw_GV tw_cons cw_Output_add lk_Output_45 in_Output_add sel_Output_add ini_Output) rfl rfl rfl ⟨rfl, hd_Output_add⟩ ⟨Nat.le_of_ble_eq_true rfl, Nat.le_of_ble_eq_true rfl⟩) (xpV hK hP hD hS hE hFc xo_6 rfl) rfl rfl hl.1 rfl (lv_room (Nat.le_of_ble_eq_true rfl)) d_Output_addPlain_105 ⟨Nat.le_of_ble_eq_true rfl, Nat.le_of_ble_eq_true rfl⟩) hS (fun q _ h => hFc q h) hFc (fun u9 t9 H locs ht hvm e9 hB hz1 hk1 hS => ?_)
        obtain ⟨hP, hD⟩ := x_aft hB ht hFc
        clear hFc hk1 hz1 hvm hB ht
        refine lv_iload_n hx hb d_Output_addPlain_108 rfl (lv_at hl 2 rfl) ?_
        refine lv_bipush (v := 10) hx hb d_Output_addPlain_109 (by decide) ?_
        refine lv_idiv hx hb d_Output_addPlain_111 (by decide) ?_
        refine lv_topi (fun x_8 ex_8 => ?_)
        replace hm := ob1_at ex_8 hm
        refine lv_istore_n (lv' := [(3, .int x_8), (0, .ref ((u 6))), (2, .int v2), (4, .int v4)]) hx hb d_Output_addPlain_112 rfl hl (by decide) rfl (fun ls hl => ?_)
        obtain ⟨x_9, ex_9⟩ : ∃ y9 : Int32, y9 = v4 + 1 := ⟨_, rfl⟩
        replace hm := ob1_at ex_9 hm
        refine lv_iinc (v := x_9) (lv' := [(4, .int x_9), (3, .int x_8), (0, .ref ((u 6))), (2, .int v2)]) hx hb d_Output_addPlain_113 hl (k := 3) rfl (by rw [ex_9]; rfl) (by decide) rfl (fun ls hl => ?_)
        refine lv_goto (tgt := 84) hx hb d_Output_addPlain_116 (by decide) ?_
        exact ih _ _ _ _ _ hm _ _ _ hP hD hS (lv_sub hl [2, 3, 1, 0] rfl)
def m_Output_addPlain_b81 (n : Nat) (g : Nat → Nat) (i : Nat → Int32) (a : Nat → Nat → Int32) (v2 : Int32) (v3 : Int32) : Option ((Nat → Int32) × (Nat → Nat → Int32) × Int32) := m_Output_addPlain_b84 n g n i a v2 v3 (0 : Int32)
set_option maxHeartbeats 4000000 in
set_option maxRecDepth 100000 in
theorem lb_Output_addPlain_81 (l : Launch) (dC : Nat → ClassId) (dI : Nat → Nat → Nat) (cI : ClassId) (adK adV adA u o g : Nat → Nat) (n : Nat) {p : Program} {e : Env} {s : State} {m : MethodId} {args : Array Value} {below : List Frame} {meth : Method} {c : Code} {A : Nat → Prop} (hx : p.tables.exec = Jvm.exec) (hb : c.code = b_Output_addPlain) (hml : c.maxLocals = 5) (hown : s.vm.findClass R_Output = some m.cls) (hts : ∀ w ∈ w_Output_addPlain, w.before args s = true) (hK : va_K (dC, dI) classes [(cI, .int)] s) (hE : tw_E adK adV adA A s s.heap) (hA : ∀ q : Nat, s.heap.size ≤ q → A q) (hr : meth.sig.returnType = none) (hlocks : meth.locks = false) {i2 : Nat → Int32} {a2 : Nat → Nat → Int32} {r2 : Int32} (i : Nat → Int32) (a : Nat → Nat → Int32) (v2 : Int32) (v3 : Int32) (hm : m_Output_addPlain_b81 n g i a v2 v3 = some (i2, a2, r2)) : ∀ (H : Heap) (locs : List Loc) (ls : Array Slot), va_P (dC, dI) classes (TW cI u o i a g) H → va_D A (TW cI u o i a g) → va_S A s.heap H locs → lv_has ls 5 [(0, .ref ((u 6))), (2, .int v2), (3, .int v3)] → W p l e ({ frames := 1, cells := 0, slots := 0, locals := 26 } : Room) s m args below meth c H locs 0 0 (MQ below (va_Qv xV (xB dC dI cI u o g i2 a2 A) A) args s 0 0 A) (F0 m 81 ls []) := by
  have htt : ∀ w ∈ tw_T, w.before _ s = true := fun w h => hts w (List.mem_cons_of_mem _ h)
  intro H locs ls hP hD hS hl
  rw [m_Output_addPlain_b81] at hm
  refine lv_iconst (v := 0) hx hb d_Output_addPlain_81 (by decide) ?_
  refine lv_istore (lv' := [(4, .int 0), (0, .ref ((u 6))), (2, .int v2), (3, .int v3)]) hx hb d_Output_addPlain_82 hl (by decide) rfl (fun ls hl => ?_)
  exact lb_Output_addPlain_84 l dC dI cI adK adV adA u o g n hx hb hml hown hts hK hE hA hr hlocks n _ _ _ _ _ hm _ _ _ hP hD hS (lv_sub hl [1, 2, 3, 0] rfl)
def m_Output_addPlain_b55 (n : Nat) (g : Nat → Nat) : Nat → (Nat → Int32) → (Nat → Nat → Int32) → Int32 → Int32 → Int32 → Option ((Nat → Int32) × (Nat → Nat → Int32) × Int32)
  | 0, _, _, _, _, _ => none
  | f + 1, i, a, v2, v3, v4 => if ((9 : Int32)) ≤ v4 then m_Output_addPlain_b81 n g i a v2 v3 else if ((v2 / 10)) < v3 then m_Output_addPlain_b81 n g i a v2 v3 else ob1 (v3 * 10 : Int32) (fun x_3 => ob1 (v4 + 1 : Int32) (fun x_4 => m_Output_addPlain_b55 n g f i a v2 x_3 x_4))
set_option maxHeartbeats 4000000 in
set_option maxRecDepth 100000 in
theorem lb_Output_addPlain_55 (l : Launch) (dC : Nat → ClassId) (dI : Nat → Nat → Nat) (cI : ClassId) (adK adV adA u o g : Nat → Nat) (n : Nat) {p : Program} {e : Env} {s : State} {m : MethodId} {args : Array Value} {below : List Frame} {meth : Method} {c : Code} {A : Nat → Prop} (hx : p.tables.exec = Jvm.exec) (hb : c.code = b_Output_addPlain) (hml : c.maxLocals = 5) (hown : s.vm.findClass R_Output = some m.cls) (hts : ∀ w ∈ w_Output_addPlain, w.before args s = true) (hK : va_K (dC, dI) classes [(cI, .int)] s) (hE : tw_E adK adV adA A s s.heap) (hA : ∀ q : Nat, s.heap.size ≤ q → A q) (hr : meth.sig.returnType = none) (hlocks : meth.locks = false) {i2 : Nat → Int32} {a2 : Nat → Nat → Int32} {r2 : Int32} : ∀ (f : Nat) (i : Nat → Int32) (a : Nat → Nat → Int32) (v2 : Int32) (v3 : Int32) (v4 : Int32), m_Output_addPlain_b55 n g f i a v2 v3 v4 = some (i2, a2, r2) → ∀ (H : Heap) (locs : List Loc) (ls : Array Slot), va_P (dC, dI) classes (TW cI u o i a g) H → va_D A (TW cI u o i a g) → va_S A s.heap H locs → lv_has ls 5 [(0, .ref ((u 6))), (2, .int v2), (3, .int v3), (4, .int v4)] → W p l e ({ frames := 1, cells := 0, slots := 0, locals := 26 } : Room) s m args below meth c H locs 0 0 (MQ below (va_Qv xV (xB dC dI cI u o g i2 a2 A) A) args s 0 0 A) (F0 m 55 ls []) := by
  have htt : ∀ w ∈ tw_T, w.before _ s = true := fun w h => hts w (List.mem_cons_of_mem _ h)
  intro f
  induction f with
  | zero =>
    intro i a v2 v3 v4 hm
    rw [m_Output_addPlain_b55] at hm
    cases hm
  | succ f ih =>
    intro i a v2 v3 v4 hm H locs ls hP hD hS hl
    rw [m_Output_addPlain_b55] at hm
    refine lv_iload hx hb d_Output_addPlain_55 (lv_at hl 3 rfl) ?_
    refine lv_bipush (v := 9) hx hb d_Output_addPlain_57 (by decide) ?_
    refine lv_icmp_ge (tgt := 81) hx hb d_Output_addPlain_59 (by decide) (fun c_1 => ?_) (fun c_1 => ?_)
    · replace hm := if_t c_1 hm
      exact lb_Output_addPlain_81 l dC dI cI adK adV adA u o g n hx hb hml hown hts hK hE hA hr hlocks _ _ _ _ hm _ _ _ hP hD hS (lv_sub hl [0, 1, 2] rfl)
    · replace hm := if_f c_1 hm
      refine lv_iload_n hx hb d_Output_addPlain_62 rfl (lv_at hl 2 rfl) ?_
      refine lv_iload_n hx hb d_Output_addPlain_63 rfl (lv_at hl 1 rfl) ?_
      refine lv_bipush (v := 10) hx hb d_Output_addPlain_64 (by decide) ?_
      refine lv_idiv hx hb d_Output_addPlain_66 (by decide) ?_
      refine lv_icmp_gt (tgt := 81) hx hb d_Output_addPlain_67 (by decide) (fun c_2 => ?_) (fun c_2 => ?_)
      · replace hm := if_t c_2 hm
        exact lb_Output_addPlain_81 l dC dI cI adK adV adA u o g n hx hb hml hown hts hK hE hA hr hlocks _ _ _ _ hm _ _ _ hP hD hS (lv_sub hl [0, 1, 2] rfl)
      · replace hm := if_f c_2 hm
        refine lv_iload_n hx hb d_Output_addPlain_70 rfl (lv_at hl 2 rfl) ?_
        refine lv_bipush (v := 10) hx hb d_Output_addPlain_71 (by decide) ?_
        refine lv_imul hx hb d_Output_addPlain_73 ?_
        refine lv_topi (fun x_3 ex_3 => ?_)
        replace hm := ob1_at ex_3 hm
        refine lv_istore_n (lv' := [(3, .int x_3), (0, .ref ((u 6))), (2, .int v2), (4, .int v4)]) hx hb d_Output_addPlain_74 rfl hl (by decide) rfl (fun ls hl => ?_)
        obtain ⟨x_4, ex_4⟩ : ∃ y9 : Int32, y9 = v4 + 1 := ⟨_, rfl⟩
        replace hm := ob1_at ex_4 hm
        refine lv_iinc (v := x_4) (lv' := [(4, .int x_4), (3, .int x_3), (0, .ref ((u 6))), (2, .int v2)]) hx hb d_Output_addPlain_75 hl (k := 3) rfl (by rw [ex_4]; rfl) (by decide) rfl (fun ls hl => ?_)
        refine lv_goto (tgt := 55) hx hb d_Output_addPlain_78 (by decide) ?_
        exact ih _ _ _ _ _ hm _ _ _ hP hD hS (lv_sub hl [2, 3, 1, 0] rfl)
def m_Output_addPlain_b50 (n : Nat) (g : Nat → Nat) (i : Nat → Int32) (a : Nat → Nat → Int32) (v2 : Int32) : Option ((Nat → Int32) × (Nat → Nat → Int32) × Int32) := m_Output_addPlain_b55 n g n i a v2 (1 : Int32) (0 : Int32)
set_option maxHeartbeats 4000000 in
set_option maxRecDepth 100000 in
theorem lb_Output_addPlain_50 (l : Launch) (dC : Nat → ClassId) (dI : Nat → Nat → Nat) (cI : ClassId) (adK adV adA u o g : Nat → Nat) (n : Nat) {p : Program} {e : Env} {s : State} {m : MethodId} {args : Array Value} {below : List Frame} {meth : Method} {c : Code} {A : Nat → Prop} (hx : p.tables.exec = Jvm.exec) (hb : c.code = b_Output_addPlain) (hml : c.maxLocals = 5) (hown : s.vm.findClass R_Output = some m.cls) (hts : ∀ w ∈ w_Output_addPlain, w.before args s = true) (hK : va_K (dC, dI) classes [(cI, .int)] s) (hE : tw_E adK adV adA A s s.heap) (hA : ∀ q : Nat, s.heap.size ≤ q → A q) (hr : meth.sig.returnType = none) (hlocks : meth.locks = false) {i2 : Nat → Int32} {a2 : Nat → Nat → Int32} {r2 : Int32} (i : Nat → Int32) (a : Nat → Nat → Int32) (v2 : Int32) (hm : m_Output_addPlain_b50 n g i a v2 = some (i2, a2, r2)) : ∀ (H : Heap) (locs : List Loc) (ls : Array Slot), va_P (dC, dI) classes (TW cI u o i a g) H → va_D A (TW cI u o i a g) → va_S A s.heap H locs → lv_has ls 5 [(0, .ref ((u 6))), (2, .int v2)] → W p l e ({ frames := 1, cells := 0, slots := 0, locals := 26 } : Room) s m args below meth c H locs 0 0 (MQ below (va_Qv xV (xB dC dI cI u o g i2 a2 A) A) args s 0 0 A) (F0 m 50 ls []) := by
  have htt : ∀ w ∈ tw_T, w.before _ s = true := fun w h => hts w (List.mem_cons_of_mem _ h)
  intro H locs ls hP hD hS hl
  rw [m_Output_addPlain_b50] at hm
  refine lv_iconst (v := 1) hx hb d_Output_addPlain_50 (by decide) ?_
  refine lv_istore_n (lv' := [(3, .int 1), (0, .ref ((u 6))), (2, .int v2)]) hx hb d_Output_addPlain_51 rfl hl (by decide) rfl (fun ls hl => ?_)
  refine lv_iconst (v := 0) hx hb d_Output_addPlain_52 (by decide) ?_
  refine lv_istore (lv' := [(4, .int 0), (3, .int 1), (0, .ref ((u 6))), (2, .int v2)]) hx hb d_Output_addPlain_53 hl (by decide) rfl (fun ls hl => ?_)
  exact lb_Output_addPlain_55 l dC dI cI adK adV adA u o g n hx hb hml hown hts hK hE hA hr hlocks n _ _ _ _ _ hm _ _ _ hP hD hS (lv_sub hl [2, 3, 1, 0] rfl)
def m_Output_addPlain (n : Nat) (g : Nat → Nat) (i : Nat → Int32) (a : Nat → Nat → Int32) (v1 : Int32) : Option ((Nat → Int32) × (Nat → Nat → Int32) × Int32) := ob0 (m_Heap_isWord n v1) (fun r_2 => if r_2 = ((0 : Int32)) then ob1 (v1 >>> ((1 : Int32) &&& 31) : Int32) (fun x_4 => if ((0 : Int32)) ≤ x_4 then m_Output_addPlain_b50 n g i a x_4 else ob (m_Output_add n g i a (45 : Int32)) (fun i_7 a_8 r_9 => ob1 (-x_4 : Int32) (fun x_10 => m_Output_addPlain_b50 n g i_7 a_8 x_10))) else ob (m_Heap_copyLetters_a28 n g i a v1 (i 23)) (fun i_12 a_13 r_14 => ob1 ((i 23) + r_14 : Int32) (fun x_15 => ob1 (upd i_12 23 x_15 : Nat → Int32) (fun i_16 => some (i_16, a_13, (0 : Int32))))))
set_option maxHeartbeats 4000000 in
set_option maxRecDepth 100000 in
theorem x_Output_addPlain (l : Launch) (dC : Nat → ClassId) (dI : Nat → Nat → Nat) (cI : ClassId) (adK adV adA u o g : Nat → Nat) (sz : Nat) (n : Nat) {i : Nat → Int32} {a : Nat → Nat → Int32} {v1 : Int32} {i2 : Nat → Int32} {a2 : Nat → Nat → Int32} {r2 : Int32} (hm : m_Output_addPlain n g i a v1 = some (i2, a2, r2)) : Met l y_Output_addPlain w_Output_addPlain ({ frames := 1, cells := 0, slots := 0, locals := 26 } : Room) (va_Pc [.ref ((u 6)), .int v1] (xE dC dI cI adK adV adA u o g i a sz)) (va_Qv xV (xB dC dI cI u o g i2 a2 (va_A (TW cI u o i a g) sz)) (va_A (TW cI u o i a g) sz)) 0 0 ((va_A (TW cI u o i a g) sz)) := by
  refine Met.ofW (cc := b_Output_addPlain) (maxL := 5) (ret := none) (by decide) rfl ?_
  intro p e s m args below meth c s₁ B hml hv
  obtain ⟨rfl, hsz, hP, hK, hE, hD0⟩ := hv
  have hx := B.exec
  have hb := B.bytes
  have hr := B.returns
  have hts := atoms_spec (ws := w_Output_addPlain) B.pre
  have htt : ∀ w ∈ tw_T, w.before _ s = true := fun w h => hts w (List.mem_cons_of_mem _ h)
  have hown : s.vm.findClass R_Output = some m.cls := findClass_of_methodNamed B.named
  have hlocks := B.notSynchronized
  subst hsz
  have hD := hD0.self (sz := s.heap.size)
  generalize hAe : (va_A (TW cI u o i a g) s.heap.size) = A at hD hE ⊢
  have hA : ∀ q : Nat, s.heap.size ≤ q → A q := fun q h => by rw [← hAe]; exact Or.inr h
  have hS : va_S A s.heap s.heap [] := va_S.rf
  have hl := lv_entry ([.ref ((u 6)), .int v1]) (n := 5) (Nat.le_of_ble_eq_true rfl)
  rw [lg_entry_eq]
  generalize (lg_sl ([.ref ((u 6)), .int v1]) ++ List.replicate (5 - (lg_sl ([.ref ((u 6)), .int v1])).length) Slot.unset).toArray = ls at hl ⊢
  have hl : lv_has ls 5 [(0, .ref ((u 6))), (1, .int v1)] := hl
  rw [m_Output_addPlain] at hm
  refine lv_iload_n hx hb d_Output_addPlain_0 rfl (lv_at hl 1 rfl) ?_
  obtain ⟨r_2, h_1, hm⟩ := ob0_some hm
  have hFc := x_free0 hS hA
  refine va_calli (va_runS (As := [.int v1]) (rest := []) ⟨hx, hb, hml, hown, hts⟩ (x_Heap_isWord l s.heap.size n h_1) (va_cwS 1 hts (tw_GS tw_cons cw_Heap_isWord lk_Output_54 st_Heap_isWord ini_Heap) rfl rfl rfl hd_Heap_isWord ⟨Nat.le_of_ble_eq_true rfl, Nat.le_of_ble_eq_true rfl⟩) xpS0 rfl rfl hl.1 rfl (lv_room (Nat.le_of_ble_eq_true rfl)) d_Output_addPlain_1 ⟨Nat.le_of_ble_eq_true rfl, Nat.le_of_ble_eq_true rfl⟩) hS (fun q _ h => hFc q h) hFc (fun r9 u9 t9 H locs ht hvm e9 hB hz1 hk1 hS => ?_)
  have e9 : r_2 = r9 := e9
  subst e9
  replace hP := x_keep hP hk1
  clear hFc hk1 hz1 hvm hB ht
  refine lv_if_eq (tgt := 33) hx hb d_Output_addPlain_4 (by decide) (fun c_3 => ?_) (fun c_3 => ?_)
  · replace hm := if_t c_3 hm
    refine lv_iload_n hx hb d_Output_addPlain_33 rfl (lv_at hl 1 rfl) ?_
    refine lv_iconst (v := 1) hx hb d_Output_addPlain_34 (by decide) ?_
    refine lv_ishr hx hb d_Output_addPlain_35 ?_
    refine lv_topi (fun x_4 ex_4 => ?_)
    replace hm := ob1_at ex_4 hm
    refine lv_istore_n (lv' := [(2, .int x_4), (0, .ref ((u 6))), (1, .int v1)]) hx hb d_Output_addPlain_36 rfl hl (by decide) rfl (fun ls hl => ?_)
    refine lv_iload_n hx hb d_Output_addPlain_37 rfl (lv_at hl 0 rfl) ?_
    refine lv_if_ge (tgt := 50) hx hb d_Output_addPlain_38 (by decide) (fun c_5 => ?_) (fun c_5 => ?_)
    · replace hm := if_t c_5 hm
      exact lb_Output_addPlain_50 l dC dI cI adK adV adA u o g n hx hb hml hown hts hK hE hA hr hlocks _ _ _ hm _ _ _ hP hD hS (lv_sub hl [1, 0] rfl)
    · replace hm := if_f c_5 hm
      refine lv_aload_n hx hb d_Output_addPlain_41 rfl (lv_at hl 1 rfl) ?_
      refine lv_bipush (v := 45) hx hb d_Output_addPlain_42 (by decide) ?_
      obtain ⟨i_7, a_8, r_9, h_6, hm⟩ := ob_some hm
      have hFc := x_free hD hS hA
      refine va_callv (va_runV (As := [.int 45]) (rest := []) ⟨hx, hb, hml, hown, hts⟩ (x_Output_add l dC dI cI adK adV adA u o g H.size n h_6) (cwV 1 hts (tw_GV tw_cons cw_Output_add lk_Output_45 in_Output_add sel_Output_add ini_Output) rfl rfl rfl ⟨rfl, hd_Output_add⟩ ⟨Nat.le_of_ble_eq_true rfl, Nat.le_of_ble_eq_true rfl⟩) (xpV hK hP hD hS hE hFc xo_6 rfl) rfl rfl hl.1 rfl (lv_room (Nat.le_of_ble_eq_true rfl)) d_Output_addPlain_44 ⟨Nat.le_of_ble_eq_true rfl, Nat.le_of_ble_eq_true rfl⟩) hS (fun q _ h => hFc q h) hFc (fun u9 t9 H locs ht hvm e9 hB hz1 hk1 hS => ?_)
      obtain ⟨hP, hD⟩ := x_aft hB ht hFc
      clear hFc hk1 hz1 hvm hB ht
      refine lv_iload_n hx hb d_Output_addPlain_47 rfl (lv_at hl 0 rfl) ?_
      refine lv_ineg hx hb d_Output_addPlain_48 ?_
      refine lv_topi (fun x_10 ex_10 => ?_)
      replace hm := ob1_at ex_10 hm
      refine lv_istore_n (lv' := [(2, .int x_10), (0, .ref ((u 6))), (1, .int v1)]) hx hb d_Output_addPlain_49 rfl hl (by decide) rfl (fun ls hl => ?_)
      exact lb_Output_addPlain_50 l dC dI cI adK adV adA u o g n hx hb hml hown hts hK hE hA hr hlocks _ _ _ hm _ _ _ hP hD hS (lv_sub hl [1, 0] rfl)
  · replace hm := if_f c_3 hm
    refine lv_aload_n hx hb d_Output_addPlain_7 rfl (lv_at hl 0 rfl) ?_
    refine lv_dup hx hb d_Output_addPlain_8 rfl ?_
    refine va_get (D := (dC, dI)) (ci := 6) (v := .int (i 23)) (C := R_Output) (T := F_Output) (N := 11) hx hb htt iw_Output hown hK hP 6 xo_6 rfl 8 (Nat.le_of_ble_eq_true rfl) (htt _ lk_Output_31) (fun _ h9 => h9) xg_6_8 d_Output_addPlain_9 ?_
    refine lv_aload_n hx hb d_Output_addPlain_12 rfl (lv_at hl 0 rfl) ?_
    refine va_get (D := (dC, dI)) (ci := 6) (v := .ref ((u 1))) (C := R_Output) (T := F_Output) (N := 11) hx hb htt iw_Output hown hK hP 6 xo_6 rfl 0 (Nat.le_of_ble_eq_true rfl) (htt _ lk_Output_27) (fun _ h9 => h9) xg_6_0 d_Output_addPlain_13 ?_
    refine lv_iload_n hx hb d_Output_addPlain_16 rfl (lv_at hl 1 rfl) ?_
    refine lv_aload_n hx hb d_Output_addPlain_17 rfl (lv_at hl 0 rfl) ?_
    refine va_get (D := (dC, dI)) (ci := 6) (v := .ref ((u 38))) (C := R_Output) (T := F_Output) (N := 11) hx hb htt iw_Output hown hK hP 6 xo_6 rfl 7 (Nat.le_of_ble_eq_true rfl) (htt _ lk_Output_18) (fun _ h9 => h9) xg_6_7 d_Output_addPlain_18 ?_
    refine lv_aload_n hx hb d_Output_addPlain_21 rfl (lv_at hl 0 rfl) ?_
    refine va_get (D := (dC, dI)) (ci := 6) (v := .int (i 23)) (C := R_Output) (T := F_Output) (N := 11) hx hb htt iw_Output hown hK hP 6 xo_6 rfl 8 (Nat.le_of_ble_eq_true rfl) (htt _ lk_Output_31) (fun _ h9 => h9) xg_6_8 d_Output_addPlain_22 ?_
    obtain ⟨i_12, a_13, r_14, h_11, hm⟩ := ob_some hm
    have hFc := x_free hD hS hA
    refine va_calli (va_runV (As := [.int v1, .ref ((u 38)), .int (i 23)]) (rest := [.int (i 23), .ref ((u 6))]) ⟨hx, hb, hml, hown, hts⟩ (x_Heap_copyLetters_a28 l dC dI cI adK adV adA u o g H.size n h_11) (cwV 3 hts (tw_GV tw_cons cw_Heap_copyLetters lk_Output_57 in_Heap_copyLetters sel_Heap_copyLetters ini_Heap) rfl rfl rfl ⟨rfl, hd_Heap_copyLetters⟩ ⟨Nat.le_of_ble_eq_true rfl, Nat.le_of_ble_eq_true rfl⟩) (xpV hK hP hD hS hE hFc xo_1 rfl) rfl rfl hl.1 rfl (lv_room (Nat.le_of_ble_eq_true rfl)) d_Output_addPlain_25 ⟨Nat.le_of_ble_eq_true rfl, Nat.le_of_ble_eq_true rfl⟩) hS (fun q _ h => hFc q h) hFc (fun r9 u9 t9 H locs ht hvm e9 hB hz1 hk1 hS => ?_)
    have e9 : r_14 = r9 := e9
    subst e9
    obtain ⟨hP, hD⟩ := x_aft hB ht hFc
    clear hFc hk1 hz1 hvm hB ht
    refine lv_iadd hx hb d_Output_addPlain_28 ?_
    refine lv_topi (fun x_15 ex_15 => ?_)
    replace hm := ob1_at ex_15 hm
    refine va_put (D := (dC, dI)) (ci := 6) (v := .int x_15) (ty := .int) (C := R_Output) (T := F_Output) (N := 11) hx hb htt iw_Output t_Output t_Output_ok n_Output hown hK hP hD hS 6 xo_6 rfl 8 (Nat.le_of_ble_eq_true rfl) (htt _ lk_Output_31) (fun _ h9 => h9) rfl (by decide +kernel) rfl rfl xl_6_8 d_Output_addPlain_29 (fun H locs hP hD hS => ?_)
    obtain ⟨i_16, ei_16⟩ : ∃ y9 : Nat → Int32, y9 = upd i_12 23 x_15 := ⟨_, rfl⟩
    replace hm := ob1_at ei_16 hm
    obtain ⟨hP, hD⟩ := xw_23 ei_16 hP hD
    obtain ⟨e1i, e1a, e3⟩ := re3 hm
    obtain ⟨hP, hD⟩ := x_eq e1i e1a hP hD
    exact W.vret hx hb hr (fun t9 ht hW => ⟨⟨(), rfl, trivial, by rw [ht]; exact hP, hD⟩, hS.F ht⟩) hS.2.2 d_Output_addPlain_32

def m_Machine_open (n : Nat) (g : Nat → Nat) (i : Nat → Int32) (a : Nat → Nat → Int32) (v1 : Int32) (v2 : Int32) (v3 : Int32) (v4 : Int32) : Option ((Nat → Int32) × (Nat → Nat → Int32) × Int32) := ob (m_Line_open n g i a v1 v2) (fun i_2 a_3 r_4 => if r_4 = ((0 : Int32)) then some (i_2, a_3, (-2147483642)) else ob (m_Line_note n g i_2 a_3 v3 v4) (fun i_7 a_8 r_9 => some (i_7, a_8, (-2147483584))))
set_option maxHeartbeats 4000000 in
set_option maxRecDepth 100000 in
theorem x_Machine_open (l : Launch) (dC : Nat → ClassId) (dI : Nat → Nat → Nat) (cI : ClassId) (adK adV adA u o g : Nat → Nat) (sz : Nat) (n : Nat) {i : Nat → Int32} {a : Nat → Nat → Int32} {v1 : Int32} {v2 : Int32} {v3 : Int32} {v4 : Int32} {i2 : Nat → Int32} {a2 : Nat → Nat → Int32} {r2 : Int32} (hm : m_Machine_open n g i a v1 v2 v3 v4 = some (i2, a2, r2)) : Met l y_Machine_open w_Machine_open ({ frames := 1, cells := 0, slots := 0, locals := 23 } : Room) (va_Pc [.ref ((u 11)), .int v1, .int v2, .int v3, .int v4] (xE dC dI cI adK adV adA u o g i a sz)) (va_Qi (xR r2) (xB dC dI cI u o g i2 a2 (va_A (TW cI u o i a g) sz)) (va_A (TW cI u o i a g) sz)) 0 0 ((va_A (TW cI u o i a g) sz)) := by
  refine Met.ofW (cc := b_Machine_open) (maxL := 5) (ret := (some .int)) (by decide) rfl ?_
  intro p e s m args below meth c s₁ B hml hv
  obtain ⟨rfl, hsz, hP, hK, hE, hD0⟩ := hv
  have hx := B.exec
  have hb := B.bytes
  have hr := B.returns
  have hts := atoms_spec (ws := w_Machine_open) B.pre
  have htt : ∀ w ∈ tw_T, w.before _ s = true := fun w h => hts w (List.mem_cons_of_mem _ h)
  have hown : s.vm.findClass R_Machine = some m.cls := findClass_of_methodNamed B.named
  have hlocks := B.notSynchronized
  subst hsz
  have hD := hD0.self (sz := s.heap.size)
  generalize hAe : (va_A (TW cI u o i a g) s.heap.size) = A at hD hE ⊢
  have hA : ∀ q : Nat, s.heap.size ≤ q → A q := fun q h => by rw [← hAe]; exact Or.inr h
  have hS : va_S A s.heap s.heap [] := va_S.rf
  have hl := lv_entry ([.ref ((u 11)), .int v1, .int v2, .int v3, .int v4]) (n := 5) (Nat.le_of_ble_eq_true rfl)
  rw [lg_entry_eq]
  generalize (lg_sl ([.ref ((u 11)), .int v1, .int v2, .int v3, .int v4]) ++ List.replicate (5 - (lg_sl ([.ref ((u 11)), .int v1, .int v2, .int v3, .int v4])).length) Slot.unset).toArray = ls at hl ⊢
  have hl : lv_has ls 5 [(0, .ref ((u 11))), (1, .int v1), (2, .int v2), (3, .int v3), (4, .int v4)] := hl
  rw [m_Machine_open] at hm
  refine lv_aload_n hx hb d_Machine_open_0 rfl (lv_at hl 0 rfl) ?_
  refine va_get (D := (dC, dI)) (ci := 11) (v := .ref ((u 8))) (C := R_Machine) (T := F_Machine) (N := 9) hx hb htt iw_Machine hown hK hP 11 xo_11 rfl 1 (Nat.le_of_ble_eq_true rfl) (htt _ lk_Machine_18) (fun _ h9 => h9) xg_11_1 d_Machine_open_1 ?_
  refine lv_iload_n hx hb d_Machine_open_4 rfl (lv_at hl 1 rfl) ?_
  refine lv_iload_n hx hb d_Machine_open_5 rfl (lv_at hl 2 rfl) ?_
  refine lv_aload_n hx hb d_Machine_open_6 rfl (lv_at hl 0 rfl) ?_
  refine va_get (D := (dC, dI)) (ci := 11) (v := .ref ((u 9))) (C := R_Machine) (T := F_Machine) (N := 9) hx hb htt iw_Machine hown hK hP 11 xo_11 rfl 2 (Nat.le_of_ble_eq_true rfl) (htt _ lk_Machine_22) (fun _ h9 => h9) xg_11_2 d_Machine_open_7 ?_
  obtain ⟨i_2, a_3, r_4, h_1, hm⟩ := ob_some hm
  have hFc := x_free hD hS hA
  refine va_calli (va_runV (As := [.int v1, .int v2, .ref ((u 9))]) (rest := []) ⟨hx, hb, hml, hown, hts⟩ (x_Line_open l dC dI cI adK adV adA u o g s.heap.size n h_1) (cwV 3 hts (tw_GV tw_cons cw_Line_open lk_Machine_58 in_Line_open sel_Line_open ini_Line) rfl rfl rfl ⟨rfl, hd_Line_open⟩ ⟨Nat.le_of_ble_eq_true rfl, Nat.le_of_ble_eq_true rfl⟩) (xpV hK hP hD hS hE hFc xo_8 rfl) rfl rfl hl.1 rfl (lv_room (Nat.le_of_ble_eq_true rfl)) d_Machine_open_10 ⟨Nat.le_of_ble_eq_true rfl, Nat.le_of_ble_eq_true rfl⟩) hS (fun q _ h => hFc q h) hFc (fun r9 u9 t9 H locs ht hvm e9 hB hz1 hk1 hS => ?_)
  have e9 : r_4 = r9 := e9
  subst e9
  obtain ⟨hP, hD⟩ := x_aft hB ht hFc
  clear hFc hk1 hz1 hvm hB ht
  refine lv_if_ne (tgt := 20) hx hb d_Machine_open_13 (by decide) (fun c_5 => ?_) (fun c_5 => ?_)
  · replace hm := if_f c_5 hm
    refine lv_aload_n hx hb d_Machine_open_20 rfl (lv_at hl 0 rfl) ?_
    refine va_get (D := (dC, dI)) (ci := 11) (v := .ref ((u 8))) (C := R_Machine) (T := F_Machine) (N := 9) hx hb htt iw_Machine hown hK hP 11 xo_11 rfl 1 (Nat.le_of_ble_eq_true rfl) (htt _ lk_Machine_18) (fun _ h9 => h9) xg_11_1 d_Machine_open_21 ?_
    refine lv_iload_n hx hb d_Machine_open_24 rfl (lv_at hl 3 rfl) ?_
    refine lv_iload hx hb d_Machine_open_25 (lv_at hl 4 rfl) ?_
    obtain ⟨i_7, a_8, r_9, h_6, hm⟩ := ob_some hm
    have hFc := x_free hD hS hA
    refine va_callv (va_runV (As := [.int v3, .int v4]) (rest := []) ⟨hx, hb, hml, hown, hts⟩ (x_Line_note l dC dI cI adK adV adA u o g H.size n h_6) (cwV 2 hts (tw_GV tw_cons cw_Line_note lk_Machine_341 in_Line_note sel_Line_note ini_Line) rfl rfl rfl ⟨rfl, hd_Line_note⟩ ⟨Nat.le_of_ble_eq_true rfl, Nat.le_of_ble_eq_true rfl⟩) (xpV hK hP hD hS hE hFc xo_8 rfl) rfl rfl hl.1 rfl (lv_room (Nat.le_of_ble_eq_true rfl)) d_Machine_open_27 ⟨Nat.le_of_ble_eq_true rfl, Nat.le_of_ble_eq_true rfl⟩) hS (fun q _ h => hFc q h) hFc (fun u9 t9 H locs ht hvm e9 hB hz1 hk1 hS => ?_)
    obtain ⟨hP, hD⟩ := x_aft hB ht hFc
    clear hFc hk1 hz1 hvm hB ht
    refine lv_ldc (v := (-2147483584)) hx hb hown (htt _ lk_Machine_110) d_Machine_open_30 ?_
    obtain ⟨e1i, e1a, e3⟩ := re3 hm
    obtain ⟨hP, hD⟩ := x_eq e1i e1a hP hD
    exact W.iret hx hb hr (fun t9 ht hW => ⟨⟨_, (), rfl, e3.symm, by rw [ht]; exact hP, hD⟩, hS.F ht⟩) hS.2.2 d_Machine_open_32
  · replace hm := if_t c_5 hm
    refine lv_ldcw (v := (-2147483642)) hx hb hown (htt _ lk_Machine_340) d_Machine_open_16 ?_
    obtain ⟨e1i, e1a, e3⟩ := re3 hm
    obtain ⟨hP, hD⟩ := x_eq e1i e1a hP hD
    exact W.iret hx hb hr (fun t9 ht hW => ⟨⟨_, (), rfl, e3.symm, by rw [ht]; exact hP, hD⟩, hS.F ht⟩) hS.2.2 d_Machine_open_19

def m_Machine_repcount (n : Nat) (g : Nat → Nat) (i : Nat → Int32) (a : Nat → Nat → Int32)  : Option (Int32) := ob0 (m_Line_newest n g i a (3 : Int32) (3 : Int32)) (fun r_2 => if ((0 : Int32)) ≤ r_2 then ck r_2 150 (ob0 (m_Heap_number n (a 40 r_2.toNatClampNeg)) (fun r_6 => some r_6)) else ob0 (m_Heap_number n (0 : Int32)) (fun r_8 => some r_8))
set_option maxHeartbeats 4000000 in
set_option maxRecDepth 100000 in
theorem x_Machine_repcount (l : Launch) (dC : Nat → ClassId) (dI : Nat → Nat → Nat) (cI : ClassId) (adK adV adA u o g : Nat → Nat) (sz : Nat) (n : Nat) {i : Nat → Int32} {a : Nat → Nat → Int32}  {r2 : Int32} (hm : m_Machine_repcount n g i a = some r2) : Met l y_Machine_repcount w_Machine_repcount ({ frames := 1, cells := 0, slots := 0, locals := 23 } : Room) (va_Pc [.ref ((u 11))] (xEr dC dI cI adK adV adA u o g i a sz)) (va_Qi (xR r2) xT (xN sz)) 0 0 (xN sz) := by
  refine Met.ofW (cc := b_Machine_repcount) (maxL := 2) (ret := (some .int)) (by decide) rfl ?_
  intro p e s m args below meth c s₁ B hml hv
  obtain ⟨rfl, hsz, hP, hK, hE⟩ := hv
  have hx := B.exec
  have hb := B.bytes
  have hr := B.returns
  have hts := atoms_spec (ws := w_Machine_repcount) B.pre
  have htt : ∀ w ∈ tw_T, w.before _ s = true := fun w h => hts w (List.mem_cons_of_mem _ h)
  have hown : s.vm.findClass R_Machine = some m.cls := findClass_of_methodNamed B.named
  have hlocks := B.notSynchronized
  subst hsz
  generalize hAe : xN s.heap.size = A at hE ⊢
  have hA : ∀ q : Nat, s.heap.size ≤ q → A q := fun q h => by rw [← hAe]; exact Or.inr h
  have hS : va_S A s.heap s.heap [] := va_S.rf
  have hl := lv_entry ([.ref ((u 11))]) (n := 2) (Nat.le_of_ble_eq_true rfl)
  rw [lg_entry_eq]
  generalize (lg_sl ([.ref ((u 11))]) ++ List.replicate (2 - (lg_sl ([.ref ((u 11))])).length) Slot.unset).toArray = ls at hl ⊢
  have hl : lv_has ls 2 [(0, .ref ((u 11)))] := hl
  rw [m_Machine_repcount] at hm
  refine lv_aload_n hx hb d_Machine_repcount_0 rfl (lv_at hl 0 rfl) ?_
  refine va_get (D := (dC, dI)) (ci := 11) (v := .ref ((u 8))) (C := R_Machine) (T := F_Machine) (N := 9) hx hb htt iw_Machine hown hK hP 11 xo_11 rfl 1 (Nat.le_of_ble_eq_true rfl) (htt _ lk_Machine_18) (fun _ h9 => h9) xg_11_1 d_Machine_repcount_1 ?_
  refine lv_iconst (v := 3) hx hb d_Machine_repcount_4 (by decide) ?_
  refine lv_iconst (v := 3) hx hb d_Machine_repcount_5 (by decide) ?_
  obtain ⟨r_2, h_1, hm⟩ := ob0_some hm
  have hFc := x_free0 hS hA
  refine va_calli (va_runV (As := [.int 3, .int 3]) (rest := []) ⟨hx, hb, hml, hown, hts⟩ (x_Line_newest l dC dI cI adK adV adA u o g s.heap.size n h_1) (cwV 2 hts (tw_GV tw_cons cw_Line_newest lk_Machine_386 in_Line_newest sel_Line_newest ini_Line) rfl rfl rfl ⟨rfl, hd_Line_newest⟩ ⟨Nat.le_of_ble_eq_true rfl, Nat.le_of_ble_eq_true rfl⟩) (xpVr hK hP hS hE hFc xo_8 rfl) rfl rfl hl.1 rfl (lv_room (Nat.le_of_ble_eq_true rfl)) d_Machine_repcount_6 ⟨Nat.le_of_ble_eq_true rfl, Nat.le_of_ble_eq_true rfl⟩) hS (fun q _ h => hFc q h) hFc (fun r9 u9 t9 H locs ht hvm e9 hB hz1 hk1 hS => ?_)
  have e9 : r_2 = r9 := e9
  subst e9
  replace hP := x_keep hP hk1
  clear hFc hk1 hz1 hvm hB ht
  refine lv_istore_n (lv' := [(1, .int r_2), (0, .ref ((u 11)))]) hx hb d_Machine_repcount_9 rfl hl (by decide) rfl (fun ls hl => ?_)
  refine lv_iload_n hx hb d_Machine_repcount_10 rfl (lv_at hl 0 rfl) ?_
  refine lv_if_ge (tgt := 18) hx hb d_Machine_repcount_11 (by decide) (fun c_3 => ?_) (fun c_3 => ?_)
  · replace hm := if_t c_3 hm
    refine lv_aload_n hx hb d_Machine_repcount_18 rfl (lv_at hl 1 rfl) ?_
    refine va_get (D := (dC, dI)) (ci := 11) (v := .ref ((u 8))) (C := R_Machine) (T := F_Machine) (N := 9) hx hb htt iw_Machine hown hK hP 11 xo_11 rfl 1 (Nat.le_of_ble_eq_true rfl) (htt _ lk_Machine_18) (fun _ h9 => h9) xg_11_1 d_Machine_repcount_19 ?_
    refine va_get (D := (dC, dI)) (ci := 8) (v := .ref ((u 50))) (C := R_Line) (T := F_Line) (N := 18) hx hb htt iw_Line hown hK hP 8 xo_8 rfl 11 (Nat.le_of_ble_eq_true rfl) (htt _ lk_Machine_255) (fun _ h9 => h9) xg_8_11 d_Machine_repcount_22 ?_
    refine lv_iload_n hx hb d_Machine_repcount_25 rfl (lv_at hl 0 rfl) ?_
    obtain ⟨h_4, hm⟩ := ck_some hm
    refine va_iald hx hb hK hP 52 0 twA_40 rfl h_4 d_Machine_repcount_26 ?_
    obtain ⟨r_6, h_5, hm⟩ := ob0_some hm
    have hFc := x_free0 hS hA
    refine va_calli (va_runS (As := [.int (a 40 r_2.toNatClampNeg)]) (rest := []) ⟨hx, hb, hml, hown, hts⟩ (x_Heap_number l H.size n h_5) (va_cwS 1 hts (tw_GS tw_cons cw_Heap_number lk_Machine_389 st_Heap_number ini_Heap) rfl rfl rfl hd_Heap_number ⟨Nat.le_of_ble_eq_true rfl, Nat.le_of_ble_eq_true rfl⟩) xpS0 rfl rfl hl.1 rfl (lv_room (Nat.le_of_ble_eq_true rfl)) d_Machine_repcount_27 ⟨Nat.le_of_ble_eq_true rfl, Nat.le_of_ble_eq_true rfl⟩) hS (fun q _ h => hFc q h) hFc (fun r9 u9 t9 H locs ht hvm e9 hB hz1 hk1 hS => ?_)
    have e9 : r_6 = r9 := e9
    subst e9
    replace hP := x_keep hP hk1
    clear hFc hk1 hz1 hvm hB ht
    have e3 := re1 hm
    exact W.iret hx hb hr (fun t9 ht hW => ⟨⟨_, (), rfl, e3.symm, trivial⟩, hS.F ht⟩) hS.2.2 d_Machine_repcount_30
  · replace hm := if_f c_3 hm
    refine lv_iconst (v := 0) hx hb d_Machine_repcount_14 (by decide) ?_
    refine lv_goto (tgt := 27) hx hb d_Machine_repcount_15 (by decide) ?_
    obtain ⟨r_8, h_7, hm⟩ := ob0_some hm
    have hFc := x_free0 hS hA
    refine va_calli (va_runS (As := [.int 0]) (rest := []) ⟨hx, hb, hml, hown, hts⟩ (x_Heap_number l H.size n h_7) (va_cwS 1 hts (tw_GS tw_cons cw_Heap_number lk_Machine_389 st_Heap_number ini_Heap) rfl rfl rfl hd_Heap_number ⟨Nat.le_of_ble_eq_true rfl, Nat.le_of_ble_eq_true rfl⟩) xpS0 rfl rfl hl.1 rfl (lv_room (Nat.le_of_ble_eq_true rfl)) d_Machine_repcount_27 ⟨Nat.le_of_ble_eq_true rfl, Nat.le_of_ble_eq_true rfl⟩) hS (fun q _ h => hFc q h) hFc (fun r9 u9 t9 H locs ht hvm e9 hB hz1 hk1 hS => ?_)
    have e9 : r_8 = r9 := e9
    subst e9
    replace hP := x_keep hP hk1
    clear hFc hk1 hz1 hvm hB ht
    have e3 := re1 hm
    exact W.iret hx hb hr (fun t9 ht hW => ⟨⟨_, (), rfl, e3.symm, trivial⟩, hS.F ht⟩) hS.2.2 d_Machine_repcount_30

def m_Machine_tellCaught (n : Nat) (g : Nat → Nat) (i : Nat → Int32) (a : Nat → Nat → Int32)  : Option ((Nat → Int32) × (Nat → Nat → Int32) × Int32) := ob1 (i 39 : Int32) (fun x_1 => ob1 (upd i 39 0 : Nat → Int32) (fun i_2 => ob0 (m_Heap_number n x_1) (fun r_4 => some (i_2, a, r_4))))
set_option maxHeartbeats 4000000 in
set_option maxRecDepth 100000 in
theorem x_Machine_tellCaught (l : Launch) (dC : Nat → ClassId) (dI : Nat → Nat → Nat) (cI : ClassId) (adK adV adA u o g : Nat → Nat) (sz : Nat) (n : Nat) {i : Nat → Int32} {a : Nat → Nat → Int32}  {i2 : Nat → Int32} {a2 : Nat → Nat → Int32} {r2 : Int32} (hm : m_Machine_tellCaught n g i a = some (i2, a2, r2)) : Met l y_Machine_tellCaught w_Machine_tellCaught ({ frames := 1, cells := 0, slots := 0, locals := 20 } : Room) (va_Pc [.ref ((u 11))] (xE dC dI cI adK adV adA u o g i a sz)) (va_Qi (xR r2) (xB dC dI cI u o g i2 a2 (va_A (TW cI u o i a g) sz)) (va_A (TW cI u o i a g) sz)) 0 0 ((va_A (TW cI u o i a g) sz)) := by
  refine Met.ofW (cc := b_Machine_tellCaught) (maxL := 2) (ret := (some .int)) (by decide) rfl ?_
  intro p e s m args below meth c s₁ B hml hv
  obtain ⟨rfl, hsz, hP, hK, hE, hD0⟩ := hv
  have hx := B.exec
  have hb := B.bytes
  have hr := B.returns
  have hts := atoms_spec (ws := w_Machine_tellCaught) B.pre
  have htt : ∀ w ∈ tw_T, w.before _ s = true := fun w h => hts w (List.mem_cons_of_mem _ h)
  have hown : s.vm.findClass R_Machine = some m.cls := findClass_of_methodNamed B.named
  have hlocks := B.notSynchronized
  subst hsz
  have hD := hD0.self (sz := s.heap.size)
  generalize hAe : (va_A (TW cI u o i a g) s.heap.size) = A at hD hE ⊢
  have hA : ∀ q : Nat, s.heap.size ≤ q → A q := fun q h => by rw [← hAe]; exact Or.inr h
  have hS : va_S A s.heap s.heap [] := va_S.rf
  have hl := lv_entry ([.ref ((u 11))]) (n := 2) (Nat.le_of_ble_eq_true rfl)
  rw [lg_entry_eq]
  generalize (lg_sl ([.ref ((u 11))]) ++ List.replicate (2 - (lg_sl ([.ref ((u 11))])).length) Slot.unset).toArray = ls at hl ⊢
  have hl : lv_has ls 2 [(0, .ref ((u 11)))] := hl
  rw [m_Machine_tellCaught] at hm
  refine lv_aload_n hx hb d_Machine_tellCaught_0 rfl (lv_at hl 0 rfl) ?_
  refine va_get (D := (dC, dI)) (ci := 11) (v := .ref ((u 8))) (C := R_Machine) (T := F_Machine) (N := 9) hx hb htt iw_Machine hown hK hP 11 xo_11 rfl 1 (Nat.le_of_ble_eq_true rfl) (htt _ lk_Machine_18) (fun _ h9 => h9) xg_11_1 d_Machine_tellCaught_1 ?_
  refine va_get (D := (dC, dI)) (ci := 8) (v := .int (i 39)) (C := R_Line) (T := F_Line) (N := 18) hx hb htt iw_Line hown hK hP 8 xo_8 rfl 5 (Nat.le_of_ble_eq_true rfl) (htt _ lk_Machine_127) (fun _ h9 => h9) xg_8_5 d_Machine_tellCaught_4 ?_
  refine lv_topi (fun x_1 ex_1 => ?_)
  replace hm := ob1_at ex_1 hm
  refine lv_istore_n (lv' := [(1, .int x_1), (0, .ref ((u 11)))]) hx hb d_Machine_tellCaught_7 rfl hl (by decide) rfl (fun ls hl => ?_)
  refine lv_aload_n hx hb d_Machine_tellCaught_8 rfl (lv_at hl 1 rfl) ?_
  refine va_get (D := (dC, dI)) (ci := 11) (v := .ref ((u 8))) (C := R_Machine) (T := F_Machine) (N := 9) hx hb htt iw_Machine hown hK hP 11 xo_11 rfl 1 (Nat.le_of_ble_eq_true rfl) (htt _ lk_Machine_18) (fun _ h9 => h9) xg_11_1 d_Machine_tellCaught_9 ?_
  refine lv_iconst (v := 0) hx hb d_Machine_tellCaught_12 (by decide) ?_
  refine va_put (D := (dC, dI)) (ci := 8) (v := .int 0) (ty := .int) (C := R_Line) (T := F_Line) (N := 18) hx hb htt iw_Line t_Line t_Line_ok n_Line hown hK hP hD hS 8 xo_8 rfl 5 (Nat.le_of_ble_eq_true rfl) (htt _ lk_Machine_127) (fun _ h9 => h9) rfl (by decide +kernel) rfl rfl xl_8_5 d_Machine_tellCaught_13 (fun H locs hP hD hS => ?_)
  obtain ⟨i_2, ei_2⟩ : ∃ y9 : Nat → Int32, y9 = upd i 39 0 := ⟨_, rfl⟩
  replace hm := ob1_at ei_2 hm
  obtain ⟨hP, hD⟩ := xw_39 ei_2 hP hD
  refine lv_iload_n hx hb d_Machine_tellCaught_16 rfl (lv_at hl 0 rfl) ?_
  obtain ⟨r_4, h_3, hm⟩ := ob0_some hm
  have hFc := x_free0 hS hA
  refine va_calli (va_runS (As := [.int x_1]) (rest := []) ⟨hx, hb, hml, hown, hts⟩ (x_Heap_number l H.size n h_3) (va_cwS 1 hts (tw_GS tw_cons cw_Heap_number lk_Machine_389 st_Heap_number ini_Heap) rfl rfl rfl hd_Heap_number ⟨Nat.le_of_ble_eq_true rfl, Nat.le_of_ble_eq_true rfl⟩) xpS0 rfl rfl hl.1 rfl (lv_room (Nat.le_of_ble_eq_true rfl)) d_Machine_tellCaught_17 ⟨Nat.le_of_ble_eq_true rfl, Nat.le_of_ble_eq_true rfl⟩) hS (fun q _ h => hFc q h) hFc (fun r9 u9 t9 H locs ht hvm e9 hB hz1 hk1 hS => ?_)
  have e9 : r_4 = r9 := e9
  subst e9
  replace hP := x_keep hP hk1
  clear hFc hk1 hz1 hvm hB ht
  obtain ⟨e1i, e1a, e3⟩ := re3 hm
  obtain ⟨hP, hD⟩ := x_eq e1i e1a hP hD
  exact W.iret hx hb hr (fun t9 ht hW => ⟨⟨_, (), rfl, e3.symm, by rw [ht]; exact hP, hD⟩, hS.F ht⟩) hS.2.2 d_Machine_tellCaught_20

def m_World_takeBack (n : Nat) (g : Nat → Nat) (i : Nat → Int32) (a : Nat → Nat → Int32)  : Option ((Nat → Int32) × (Nat → Nat → Int32) × Int32) := ob (m_Names_takeBack n g i a) (fun i_2 a_3 r_4 => ob (m_Procedures_takeBack n g i_2 a_3) (fun i_6 a_7 r_8 => ob (m_Turtles_takeBack n g i_6 a_7) (fun i_10 a_11 r_12 => ob (m_Output_takeBack n g i_10 a_11) (fun i_14 a_15 r_16 => ob1 (i_14 2 : Int32) (fun x_17 => ob1 (upd i_14 45 x_17 : Nat → Int32) (fun i_18 => ob1 (i_18 1 : Int32) (fun x_19 => ob1 (upd i_18 8 x_19 : Nat → Int32) (fun i_20 => some (i_20, a_15, (0 : Int32))))))))))
set_option maxHeartbeats 4000000 in
set_option maxRecDepth 100000 in
theorem x_World_takeBack (l : Launch) (dC : Nat → ClassId) (dI : Nat → Nat → Nat) (cI : ClassId) (adK adV adA u o g : Nat → Nat) (sz : Nat) (n : Nat) {i : Nat → Int32} {a : Nat → Nat → Int32}  {i2 : Nat → Int32} {a2 : Nat → Nat → Int32} {r2 : Int32} (hm : m_World_takeBack n g i a = some (i2, a2, r2)) : Met l y_World_takeBack w_World_takeBack ({ frames := 2, cells := 0, slots := 0, locals := 60 } : Room) (va_Pc [.ref ((u 0))] (xE dC dI cI adK adV adA u o g i a sz)) (va_Qv xV (xB dC dI cI u o g i2 a2 (va_A (TW cI u o i a g) sz)) (va_A (TW cI u o i a g) sz)) 0 0 ((va_A (TW cI u o i a g) sz)) := by
  refine Met.ofW (cc := b_World_takeBack) (maxL := 1) (ret := none) (by decide) rfl ?_
  intro p e s m args below meth c s₁ B hml hv
  obtain ⟨rfl, hsz, hP, hK, hE, hD0⟩ := hv
  have hx := B.exec
  have hb := B.bytes
  have hr := B.returns
  have hts := atoms_spec (ws := w_World_takeBack) B.pre
  have htt : ∀ w ∈ tw_T, w.before _ s = true := fun w h => hts w (List.mem_cons_of_mem _ h)
  have hown : s.vm.findClass R_World = some m.cls := findClass_of_methodNamed B.named
  have hlocks := B.notSynchronized
  subst hsz
  have hD := hD0.self (sz := s.heap.size)
  generalize hAe : (va_A (TW cI u o i a g) s.heap.size) = A at hD hE ⊢
  have hA : ∀ q : Nat, s.heap.size ≤ q → A q := fun q h => by rw [← hAe]; exact Or.inr h
  have hS : va_S A s.heap s.heap [] := va_S.rf
  have hl := lv_entry ([.ref ((u 0))]) (n := 1) (Nat.le_of_ble_eq_true rfl)
  rw [lg_entry_eq]
  generalize (lg_sl ([.ref ((u 0))]) ++ List.replicate (1 - (lg_sl ([.ref ((u 0))])).length) Slot.unset).toArray = ls at hl ⊢
  have hl : lv_has ls 1 [(0, .ref ((u 0)))] := hl
  rw [m_World_takeBack] at hm
  refine lv_aload_n hx hb d_World_takeBack_0 rfl (lv_at hl 0 rfl) ?_
  refine va_get (D := (dC, dI)) (ci := 0) (v := .ref ((u 3))) (C := R_World) (T := F_World) (N := 13) hx hb htt iw_World hown hK hP 0 xo_0 rfl 1 (Nat.le_of_ble_eq_true rfl) (htt _ lk_World_26) (fun _ h9 => h9) xg_0_1 d_World_takeBack_1 ?_
  obtain ⟨i_2, a_3, r_4, h_1, hm⟩ := ob_some hm
  have hFc := x_free hD hS hA
  refine va_callv (va_runV (As := []) (rest := []) ⟨hx, hb, hml, hown, hts⟩ (x_Names_takeBack l dC dI cI adK adV adA u o g s.heap.size n h_1) (cwV 0 hts (tw_GV tw_cons cw_Names_takeBack lk_World_278 in_Names_takeBack sel_Names_takeBack ini_Names) rfl rfl rfl ⟨rfl, hd_Names_takeBack⟩ ⟨Nat.le_of_ble_eq_true rfl, Nat.le_of_ble_eq_true rfl⟩) (xpV hK hP hD hS hE hFc xo_3 rfl) rfl rfl hl.1 rfl (lv_room (Nat.le_of_ble_eq_true rfl)) d_World_takeBack_4 ⟨Nat.le_of_ble_eq_true rfl, Nat.le_of_ble_eq_true rfl⟩) hS (fun q _ h => hFc q h) hFc (fun u9 t9 H locs ht hvm e9 hB hz1 hk1 hS => ?_)
  obtain ⟨hP, hD⟩ := x_aft hB ht hFc
  clear hFc hk1 hz1 hvm hB ht
  refine lv_aload_n hx hb d_World_takeBack_7 rfl (lv_at hl 0 rfl) ?_
  refine va_get (D := (dC, dI)) (ci := 0) (v := .ref ((u 4))) (C := R_World) (T := F_World) (N := 13) hx hb htt iw_World hown hK hP 0 xo_0 rfl 2 (Nat.le_of_ble_eq_true rfl) (htt _ lk_World_33) (fun _ h9 => h9) xg_0_2 d_World_takeBack_8 ?_
  obtain ⟨i_6, a_7, r_8, h_5, hm⟩ := ob_some hm
  have hFc := x_free hD hS hA
  refine va_callv (va_runV (As := []) (rest := []) ⟨hx, hb, hml, hown, hts⟩ (x_Procedures_takeBack l dC dI cI adK adV adA u o g H.size n h_5) (cwV 0 hts (tw_GV tw_cons cw_Procedures_takeBack lk_World_279 in_Procedures_takeBack sel_Procedures_takeBack ini_Procedures) rfl rfl rfl ⟨rfl, hd_Procedures_takeBack⟩ ⟨Nat.le_of_ble_eq_true rfl, Nat.le_of_ble_eq_true rfl⟩) (xpV hK hP hD hS hE hFc xo_4 rfl) rfl rfl hl.1 rfl (lv_room (Nat.le_of_ble_eq_true rfl)) d_World_takeBack_11 ⟨Nat.le_of_ble_eq_true rfl, Nat.le_of_ble_eq_true rfl⟩) hS (fun q _ h => hFc q h) hFc (fun u9 t9 H locs ht hvm e9 hB hz1 hk1 hS => ?_)
  obtain ⟨hP, hD⟩ := x_aft hB ht hFc
  clear hFc hk1 hz1 hvm hB ht
  refine lv_aload_n hx hb d_World_takeBack_14 rfl (lv_at hl 0 rfl) ?_
  refine va_get (D := (dC, dI)) (ci := 0) (v := .ref ((u 5))) (C := R_World) (T := F_World) (N := 13) hx hb htt iw_World hown hK hP 0 xo_0 rfl 3 (Nat.le_of_ble_eq_true rfl) (htt _ lk_World_40) (fun _ h9 => h9) xg_0_3 d_World_takeBack_15 ?_
  obtain ⟨i_10, a_11, r_12, h_9, hm⟩ := ob_some hm
  have hFc := x_free hD hS hA
  refine va_callv (va_runV (As := []) (rest := []) ⟨hx, hb, hml, hown, hts⟩ (x_Turtles_takeBack l dC dI cI adK adV adA u o g H.size n h_9) (cwV 0 hts (tw_GV tw_cons cw_Turtles_takeBack lk_World_280 in_Turtles_takeBack sel_Turtles_takeBack ini_Turtles) rfl rfl rfl ⟨rfl, hd_Turtles_takeBack⟩ ⟨Nat.le_of_ble_eq_true rfl, Nat.le_of_ble_eq_true rfl⟩) (xpV hK hP hD hS hE hFc xo_5 rfl) rfl rfl hl.1 rfl (lv_room (Nat.le_of_ble_eq_true rfl)) d_World_takeBack_18 ⟨Nat.le_of_ble_eq_true rfl, Nat.le_of_ble_eq_true rfl⟩) hS (fun q _ h => hFc q h) hFc (fun u9 t9 H locs ht hvm e9 hB hz1 hk1 hS => ?_)
  obtain ⟨hP, hD⟩ := x_aft hB ht hFc
  clear hFc hk1 hz1 hvm hB ht
  refine lv_aload_n hx hb d_World_takeBack_21 rfl (lv_at hl 0 rfl) ?_
  refine va_get (D := (dC, dI)) (ci := 0) (v := .ref ((u 6))) (C := R_World) (T := F_World) (N := 13) hx hb htt iw_World hown hK hP 0 xo_0 rfl 4 (Nat.le_of_ble_eq_true rfl) (htt _ lk_World_47) (fun _ h9 => h9) xg_0_4 d_World_takeBack_22 ?_
  obtain ⟨i_14, a_15, r_16, h_13, hm⟩ := ob_some hm
  have hFc := x_free hD hS hA
  refine va_callv (va_runV (As := []) (rest := []) ⟨hx, hb, hml, hown, hts⟩ (x_Output_takeBack l dC dI cI adK adV adA u o g H.size n h_13) (cwV 0 hts (tw_GV tw_cons cw_Output_takeBack lk_World_281 in_Output_takeBack sel_Output_takeBack ini_Output) rfl rfl rfl ⟨rfl, hd_Output_takeBack⟩ ⟨Nat.le_of_ble_eq_true rfl, Nat.le_of_ble_eq_true rfl⟩) (xpV hK hP hD hS hE hFc xo_6 rfl) rfl rfl hl.1 rfl (lv_room (Nat.le_of_ble_eq_true rfl)) d_World_takeBack_25 ⟨Nat.le_of_ble_eq_true rfl, Nat.le_of_ble_eq_true rfl⟩) hS (fun q _ h => hFc q h) hFc (fun u9 t9 H locs ht hvm e9 hB hz1 hk1 hS => ?_)
  obtain ⟨hP, hD⟩ := x_aft hB ht hFc
  clear hFc hk1 hz1 hvm hB ht
  refine lv_aload_n hx hb d_World_takeBack_28 rfl (lv_at hl 0 rfl) ?_
  refine va_get (D := (dC, dI)) (ci := 0) (v := .ref ((u 10))) (C := R_World) (T := F_World) (N := 13) hx hb htt iw_World hown hK hP 0 xo_0 rfl 7 (Nat.le_of_ble_eq_true rfl) (htt _ lk_World_75) (fun _ h9 => h9) xg_0_7 d_World_takeBack_29 ?_
  refine lv_aload_n hx hb d_World_takeBack_32 rfl (lv_at hl 0 rfl) ?_
  refine va_get (D := (dC, dI)) (ci := 0) (v := .int (i_14 2)) (C := R_World) (T := F_World) (N := 13) hx hb htt iw_World hown hK hP 0 xo_0 rfl 11 (Nat.le_of_ble_eq_true rfl) (htt _ lk_World_269) (fun _ h9 => h9) xg_0_11 d_World_takeBack_33 ?_
  refine lv_topi (fun x_17 ex_17 => ?_)
  replace hm := ob1_at ex_17 hm
  refine va_put (D := (dC, dI)) (ci := 10) (v := .int x_17) (ty := .int) (C := R_Deeds) (T := F_Deeds) (N := 8) hx hb htt iw_Deeds t_Deeds t_Deeds_ok n_Deeds hown hK hP hD hS 10 xo_10 rfl 7 (Nat.le_of_ble_eq_true rfl) (htt _ lk_World_180) (fun _ h9 => h9) rfl (by decide +kernel) rfl rfl xl_10_7 d_World_takeBack_36 (fun H locs hP hD hS => ?_)
  obtain ⟨i_18, ei_18⟩ : ∃ y9 : Nat → Int32, y9 = upd i_14 45 x_17 := ⟨_, rfl⟩
  replace hm := ob1_at ei_18 hm
  obtain ⟨hP, hD⟩ := xw_45 ei_18 hP hD
  refine lv_aload_n hx hb d_World_takeBack_39 rfl (lv_at hl 0 rfl) ?_
  refine va_get (D := (dC, dI)) (ci := 0) (v := .ref ((u 1))) (C := R_World) (T := F_World) (N := 13) hx hb htt iw_World hown hK hP 0 xo_0 rfl 0 (Nat.le_of_ble_eq_true rfl) (htt _ lk_World_17) (fun _ h9 => h9) xg_0_0 d_World_takeBack_40 ?_
  refine lv_aload_n hx hb d_World_takeBack_43 rfl (lv_at hl 0 rfl) ?_
  refine va_get (D := (dC, dI)) (ci := 0) (v := .int (i_18 1)) (C := R_World) (T := F_World) (N := 13) hx hb htt iw_World hown hK hP 0 xo_0 rfl 10 (Nat.le_of_ble_eq_true rfl) (htt _ lk_World_275) (fun _ h9 => h9) xg_0_10 d_World_takeBack_44 ?_
  refine lv_topi (fun x_19 ex_19 => ?_)
  replace hm := ob1_at ex_19 hm
  refine va_put (D := (dC, dI)) (ci := 1) (v := .int x_19) (ty := .int) (C := R_Heap) (T := F_Heap) (N := 12) hx hb htt iw_Heap t_Heap t_Heap_ok n_Heap hown hK hP hD hS 1 xo_1 rfl 7 (Nat.le_of_ble_eq_true rfl) (htt _ lk_World_272) (fun _ h9 => h9) rfl (by decide +kernel) rfl rfl xl_1_7 d_World_takeBack_47 (fun H locs hP hD hS => ?_)
  obtain ⟨i_20, ei_20⟩ : ∃ y9 : Nat → Int32, y9 = upd i_18 8 x_19 := ⟨_, rfl⟩
  replace hm := ob1_at ei_20 hm
  obtain ⟨hP, hD⟩ := xw_8 ei_20 hP hD
  obtain ⟨e1i, e1a, e3⟩ := re3 hm
  obtain ⟨hP, hD⟩ := x_eq e1i e1a hP hD
  exact W.vret hx hb hr (fun t9 ht hW => ⟨⟨(), rfl, trivial, by rw [ht]; exact hP, hD⟩, hS.F ht⟩) hS.2.2 d_World_takeBack_50

def m_World_look (n : Nat) (g : Nat → Nat) (i : Nat → Int32) (a : Nat → Nat → Int32) (v1 : Int32) : Option (Int32) := if v1 = 0 then some (i 35) else if v1 = 1 then some (i 36) else if v1 = 2 then some (i 37) else if v1 = 3 then some (i 40) else if v1 = 4 then ob0 (m_Machine_waitingCount n g i a) (fun r_7 => some r_7) else if v1 = 5 then some (i 38) else if v1 = 6 then some (i 39) else if v1 = 7 then some (i 17) else if v1 = 8 then some (i 12) else if v1 = 9 then some (i 15) else if v1 = 10 then some (i 20) else if v1 = 11 then some (i 24) else if v1 = 12 then some (i 45) else if v1 = 13 then some (i 41) else some ((-1))
set_option maxHeartbeats 4000000 in
set_option maxRecDepth 100000 in
theorem x_World_look (l : Launch) (dC : Nat → ClassId) (dI : Nat → Nat → Nat) (cI : ClassId) (adK adV adA u o g : Nat → Nat) (sz : Nat) (n : Nat) {i : Nat → Int32} {a : Nat → Nat → Int32} {v1 : Int32} {r2 : Int32} (hm : m_World_look n g i a v1 = some r2) : Met l y_World_look w_World_look ({ frames := 1, cells := 0, slots := 0, locals := 20 } : Room) (va_Pc [.ref ((u 0)), .int v1] (xEr dC dI cI adK adV adA u o g i a sz)) (va_Qi (xR r2) xT (xN sz)) 0 0 (xN sz) := by
  refine Met.ofW (cc := b_World_look) (maxL := 2) (ret := (some .int)) (by decide) rfl ?_
  intro p e s m args below meth c s₁ B hml hv
  obtain ⟨rfl, hsz, hP, hK, hE⟩ := hv
  have hx := B.exec
  have hb := B.bytes
  have hr := B.returns
  have hts := atoms_spec (ws := w_World_look) B.pre
  have htt : ∀ w ∈ tw_T, w.before _ s = true := fun w h => hts w (List.mem_cons_of_mem _ h)
  have hown : s.vm.findClass R_World = some m.cls := findClass_of_methodNamed B.named
  have hlocks := B.notSynchronized
  subst hsz
  generalize hAe : xN s.heap.size = A at hE ⊢
  have hA : ∀ q : Nat, s.heap.size ≤ q → A q := fun q h => by rw [← hAe]; exact Or.inr h
  have hS : va_S A s.heap s.heap [] := va_S.rf
  have hl := lv_entry ([.ref ((u 0)), .int v1]) (n := 2) (Nat.le_of_ble_eq_true rfl)
  rw [lg_entry_eq]
  generalize (lg_sl ([.ref ((u 0)), .int v1]) ++ List.replicate (2 - (lg_sl ([.ref ((u 0)), .int v1])).length) Slot.unset).toArray = ls at hl ⊢
  have hl : lv_has ls 2 [(0, .ref ((u 0))), (1, .int v1)] := hl
  rw [m_World_look] at hm
  refine lv_iload_n hx hb d_World_look_0 rfl (lv_at hl 1 rfl) ?_
  rcases Classical.em (v1 = 0) with c_1 | c_1
  · replace hm := if_t c_1 hm
    refine lv_tableIn (x := v1) (tgt := 72) hx hb d_World_look_1 (by rw [c_1]; decide) (by rw [c_1]; decide) (by rw [c_1]; rfl) (by decide) ?_
    refine lv_aload_n hx hb d_World_look_72 rfl (lv_at hl 0 rfl) ?_
    refine va_get (D := (dC, dI)) (ci := 0) (v := .ref ((u 8))) (C := R_World) (T := F_World) (N := 13) hx hb htt iw_World hown hK hP 0 xo_0 rfl 6 (Nat.le_of_ble_eq_true rfl) (htt _ lk_World_63) (fun _ h9 => h9) xg_0_6 d_World_look_73 ?_
    refine va_get (D := (dC, dI)) (ci := 8) (v := .int (i 35)) (C := R_Line) (T := F_Line) (N := 18) hx hb htt iw_Line hown hK hP 8 xo_8 rfl 1 (Nat.le_of_ble_eq_true rfl) (htt _ lk_World_100) (fun _ h9 => h9) xg_8_1 d_World_look_76 ?_
    have e3 := re1 hm
    exact W.iret hx hb hr (fun t9 ht hW => ⟨⟨_, (), rfl, e3.symm, trivial⟩, hS.F ht⟩) hS.2.2 d_World_look_79
  replace hm := if_f c_1 hm
  rcases Classical.em (v1 = 1) with c_2 | c_2
  · replace hm := if_t c_2 hm
    refine lv_tableIn (x := v1) (tgt := 80) hx hb d_World_look_1 (by rw [c_2]; decide) (by rw [c_2]; decide) (by rw [c_2]; rfl) (by decide) ?_
    refine lv_aload_n hx hb d_World_look_80 rfl (lv_at hl 0 rfl) ?_
    refine va_get (D := (dC, dI)) (ci := 0) (v := .ref ((u 8))) (C := R_World) (T := F_World) (N := 13) hx hb htt iw_World hown hK hP 0 xo_0 rfl 6 (Nat.le_of_ble_eq_true rfl) (htt _ lk_World_63) (fun _ h9 => h9) xg_0_6 d_World_look_81 ?_
    refine va_get (D := (dC, dI)) (ci := 8) (v := .int (i 36)) (C := R_Line) (T := F_Line) (N := 18) hx hb htt iw_Line hown hK hP 8 xo_8 rfl 2 (Nat.le_of_ble_eq_true rfl) (htt _ lk_World_151) (fun _ h9 => h9) xg_8_2 d_World_look_84 ?_
    have e3 := re1 hm
    exact W.iret hx hb hr (fun t9 ht hW => ⟨⟨_, (), rfl, e3.symm, trivial⟩, hS.F ht⟩) hS.2.2 d_World_look_87
  replace hm := if_f c_2 hm
  rcases Classical.em (v1 = 2) with c_3 | c_3
  · replace hm := if_t c_3 hm
    refine lv_tableIn (x := v1) (tgt := 88) hx hb d_World_look_1 (by rw [c_3]; decide) (by rw [c_3]; decide) (by rw [c_3]; rfl) (by decide) ?_
    refine lv_aload_n hx hb d_World_look_88 rfl (lv_at hl 0 rfl) ?_
    refine va_get (D := (dC, dI)) (ci := 0) (v := .ref ((u 8))) (C := R_World) (T := F_World) (N := 13) hx hb htt iw_World hown hK hP 0 xo_0 rfl 6 (Nat.le_of_ble_eq_true rfl) (htt _ lk_World_63) (fun _ h9 => h9) xg_0_6 d_World_look_89 ?_
    refine va_get (D := (dC, dI)) (ci := 8) (v := .int (i 37)) (C := R_Line) (T := F_Line) (N := 18) hx hb htt iw_Line hown hK hP 8 xo_8 rfl 3 (Nat.le_of_ble_eq_true rfl) (htt _ lk_World_141) (fun _ h9 => h9) xg_8_3 d_World_look_92 ?_
    have e3 := re1 hm
    exact W.iret hx hb hr (fun t9 ht hW => ⟨⟨_, (), rfl, e3.symm, trivial⟩, hS.F ht⟩) hS.2.2 d_World_look_95
  replace hm := if_f c_3 hm
  rcases Classical.em (v1 = 3) with c_4 | c_4
  · replace hm := if_t c_4 hm
    refine lv_tableIn (x := v1) (tgt := 96) hx hb d_World_look_1 (by rw [c_4]; decide) (by rw [c_4]; decide) (by rw [c_4]; rfl) (by decide) ?_
    refine lv_aload_n hx hb d_World_look_96 rfl (lv_at hl 0 rfl) ?_
    refine va_get (D := (dC, dI)) (ci := 0) (v := .ref ((u 8))) (C := R_World) (T := F_World) (N := 13) hx hb htt iw_World hown hK hP 0 xo_0 rfl 6 (Nat.le_of_ble_eq_true rfl) (htt _ lk_World_63) (fun _ h9 => h9) xg_0_6 d_World_look_97 ?_
    refine va_get (D := (dC, dI)) (ci := 8) (v := .int (i 40)) (C := R_Line) (T := F_Line) (N := 18) hx hb htt iw_Line hown hK hP 8 xo_8 rfl 6 (Nat.le_of_ble_eq_true rfl) (htt _ lk_World_154) (fun _ h9 => h9) xg_8_6 d_World_look_100 ?_
    have e3 := re1 hm
    exact W.iret hx hb hr (fun t9 ht hW => ⟨⟨_, (), rfl, e3.symm, trivial⟩, hS.F ht⟩) hS.2.2 d_World_look_103
  replace hm := if_f c_4 hm
  rcases Classical.em (v1 = 4) with c_5 | c_5
  · replace hm := if_t c_5 hm
    refine lv_tableIn (x := v1) (tgt := 104) hx hb d_World_look_1 (by rw [c_5]; decide) (by rw [c_5]; decide) (by rw [c_5]; rfl) (by decide) ?_
    refine lv_aload_n hx hb d_World_look_104 rfl (lv_at hl 0 rfl) ?_
    refine va_get (D := (dC, dI)) (ci := 0) (v := .ref ((u 11))) (C := R_World) (T := F_World) (N := 13) hx hb htt iw_World hown hK hP 0 xo_0 rfl 8 (Nat.le_of_ble_eq_true rfl) (htt _ lk_World_84) (fun _ h9 => h9) xg_0_8 d_World_look_105 ?_
    obtain ⟨r_7, h_6, hm⟩ := ob0_some hm
    have hFc := x_free0 hS hA
    refine va_calli (va_runV (As := []) (rest := []) ⟨hx, hb, hml, hown, hts⟩ (x_Machine_waitingCount l dC dI cI adK adV adA u o g s.heap.size n h_6) (cwV 0 hts (tw_GV tw_cons cw_Machine_waitingCount lk_World_157 in_Machine_waitingCount sel_Machine_waitingCount ini_Machine) rfl rfl rfl ⟨rfl, hd_Machine_waitingCount⟩ ⟨Nat.le_of_ble_eq_true rfl, Nat.le_of_ble_eq_true rfl⟩) (xpVr hK hP hS hE hFc xo_11 rfl) rfl rfl hl.1 rfl (lv_room (Nat.le_of_ble_eq_true rfl)) d_World_look_108 ⟨Nat.le_of_ble_eq_true rfl, Nat.le_of_ble_eq_true rfl⟩) hS (fun q _ h => hFc q h) hFc (fun r9 u9 t9 H locs ht hvm e9 hB hz1 hk1 hS => ?_)
    have e9 : r_7 = r9 := e9
    subst e9
    replace hP := x_keep hP hk1
    clear hFc hk1 hz1 hvm hB ht
    have e3 := re1 hm
    exact W.iret hx hb hr (fun t9 ht hW => ⟨⟨_, (), rfl, e3.symm, trivial⟩, hS.F ht⟩) hS.2.2 d_World_look_111
  replace hm := if_f c_5 hm
  rcases Classical.em (v1 = 5) with c_8 | c_8
  · replace hm := if_t c_8 hm
    refine lv_tableIn (x := v1) (tgt := 112) hx hb d_World_look_1 (by rw [c_8]; decide) (by rw [c_8]; decide) (by rw [c_8]; rfl) (by decide) ?_
    refine lv_aload_n hx hb d_World_look_112 rfl (lv_at hl 0 rfl) ?_
    refine va_get (D := (dC, dI)) (ci := 0) (v := .ref ((u 8))) (C := R_World) (T := F_World) (N := 13) hx hb htt iw_World hown hK hP 0 xo_0 rfl 6 (Nat.le_of_ble_eq_true rfl) (htt _ lk_World_63) (fun _ h9 => h9) xg_0_6 d_World_look_113 ?_
    refine va_get (D := (dC, dI)) (ci := 8) (v := .int (i 38)) (C := R_Line) (T := F_Line) (N := 18) hx hb htt iw_Line hown hK hP 8 xo_8 rfl 4 (Nat.le_of_ble_eq_true rfl) (htt _ lk_World_160) (fun _ h9 => h9) xg_8_4 d_World_look_116 ?_
    have e3 := re1 hm
    exact W.iret hx hb hr (fun t9 ht hW => ⟨⟨_, (), rfl, e3.symm, trivial⟩, hS.F ht⟩) hS.2.2 d_World_look_119
  replace hm := if_f c_8 hm
  rcases Classical.em (v1 = 6) with c_9 | c_9
  · replace hm := if_t c_9 hm
    refine lv_tableIn (x := v1) (tgt := 120) hx hb d_World_look_1 (by rw [c_9]; decide) (by rw [c_9]; decide) (by rw [c_9]; rfl) (by decide) ?_
    refine lv_aload_n hx hb d_World_look_120 rfl (lv_at hl 0 rfl) ?_
    refine va_get (D := (dC, dI)) (ci := 0) (v := .ref ((u 8))) (C := R_World) (T := F_World) (N := 13) hx hb htt iw_World hown hK hP 0 xo_0 rfl 6 (Nat.le_of_ble_eq_true rfl) (htt _ lk_World_63) (fun _ h9 => h9) xg_0_6 d_World_look_121 ?_
    refine va_get (D := (dC, dI)) (ci := 8) (v := .int (i 39)) (C := R_Line) (T := F_Line) (N := 18) hx hb htt iw_Line hown hK hP 8 xo_8 rfl 5 (Nat.le_of_ble_eq_true rfl) (htt _ lk_World_163) (fun _ h9 => h9) xg_8_5 d_World_look_124 ?_
    have e3 := re1 hm
    exact W.iret hx hb hr (fun t9 ht hW => ⟨⟨_, (), rfl, e3.symm, trivial⟩, hS.F ht⟩) hS.2.2 d_World_look_127
  replace hm := if_f c_9 hm
  rcases Classical.em (v1 = 7) with c_10 | c_10
  · replace hm := if_t c_10 hm
    refine lv_tableIn (x := v1) (tgt := 128) hx hb d_World_look_1 (by rw [c_10]; decide) (by rw [c_10]; decide) (by rw [c_10]; rfl) (by decide) ?_
    refine lv_aload_n hx hb d_World_look_128 rfl (lv_at hl 0 rfl) ?_
    refine va_get (D := (dC, dI)) (ci := 0) (v := .ref ((u 5))) (C := R_World) (T := F_World) (N := 13) hx hb htt iw_World hown hK hP 0 xo_0 rfl 3 (Nat.le_of_ble_eq_true rfl) (htt _ lk_World_40) (fun _ h9 => h9) xg_0_3 d_World_look_129 ?_
    refine va_get (D := (dC, dI)) (ci := 5) (v := .int (i 17)) (C := R_Turtles) (T := F_Turtles) (N := 8) hx hb htt iw_Turtles hown hK hP 5 xo_5 rfl 2 (Nat.le_of_ble_eq_true rfl) (htt _ lk_World_166) (fun _ h9 => h9) xg_5_2 d_World_look_132 ?_
    have e3 := re1 hm
    exact W.iret hx hb hr (fun t9 ht hW => ⟨⟨_, (), rfl, e3.symm, trivial⟩, hS.F ht⟩) hS.2.2 d_World_look_135
  replace hm := if_f c_10 hm
  rcases Classical.em (v1 = 8) with c_11 | c_11
  · replace hm := if_t c_11 hm
    refine lv_tableIn (x := v1) (tgt := 136) hx hb d_World_look_1 (by rw [c_11]; decide) (by rw [c_11]; decide) (by rw [c_11]; rfl) (by decide) ?_
    refine lv_aload_n hx hb d_World_look_136 rfl (lv_at hl 0 rfl) ?_
    refine va_get (D := (dC, dI)) (ci := 0) (v := .ref ((u 3))) (C := R_World) (T := F_World) (N := 13) hx hb htt iw_World hown hK hP 0 xo_0 rfl 1 (Nat.le_of_ble_eq_true rfl) (htt _ lk_World_26) (fun _ h9 => h9) xg_0_1 d_World_look_137 ?_
    refine va_get (D := (dC, dI)) (ci := 3) (v := .int (i 12)) (C := R_Names) (T := F_Names) (N := 9) hx hb htt iw_Names hown hK hP 3 xo_3 rfl 3 (Nat.le_of_ble_eq_true rfl) (htt _ lk_World_169) (fun _ h9 => h9) xg_3_3 d_World_look_140 ?_
    have e3 := re1 hm
    exact W.iret hx hb hr (fun t9 ht hW => ⟨⟨_, (), rfl, e3.symm, trivial⟩, hS.F ht⟩) hS.2.2 d_World_look_143
  replace hm := if_f c_11 hm
  rcases Classical.em (v1 = 9) with c_12 | c_12
  · replace hm := if_t c_12 hm
    refine lv_tableIn (x := v1) (tgt := 144) hx hb d_World_look_1 (by rw [c_12]; decide) (by rw [c_12]; decide) (by rw [c_12]; rfl) (by decide) ?_
    refine lv_aload_n hx hb d_World_look_144 rfl (lv_at hl 0 rfl) ?_
    refine va_get (D := (dC, dI)) (ci := 0) (v := .ref ((u 4))) (C := R_World) (T := F_World) (N := 13) hx hb htt iw_World hown hK hP 0 xo_0 rfl 2 (Nat.le_of_ble_eq_true rfl) (htt _ lk_World_33) (fun _ h9 => h9) xg_0_2 d_World_look_145 ?_
    refine va_get (D := (dC, dI)) (ci := 4) (v := .int (i 15)) (C := R_Procedures) (T := F_Procedures) (N := 8) hx hb htt iw_Procedures hown hK hP 4 xo_4 rfl 4 (Nat.le_of_ble_eq_true rfl) (htt _ lk_World_172) (fun _ h9 => h9) xg_4_4 d_World_look_148 ?_
    have e3 := re1 hm
    exact W.iret hx hb hr (fun t9 ht hW => ⟨⟨_, (), rfl, e3.symm, trivial⟩, hS.F ht⟩) hS.2.2 d_World_look_151
  replace hm := if_f c_12 hm
  rcases Classical.em (v1 = 10) with c_13 | c_13
  · replace hm := if_t c_13 hm
    refine lv_tableIn (x := v1) (tgt := 152) hx hb d_World_look_1 (by rw [c_13]; decide) (by rw [c_13]; decide) (by rw [c_13]; rfl) (by decide) ?_
    refine lv_aload_n hx hb d_World_look_152 rfl (lv_at hl 0 rfl) ?_
    refine va_get (D := (dC, dI)) (ci := 0) (v := .ref ((u 6))) (C := R_World) (T := F_World) (N := 13) hx hb htt iw_World hown hK hP 0 xo_0 rfl 4 (Nat.le_of_ble_eq_true rfl) (htt _ lk_World_47) (fun _ h9 => h9) xg_0_4 d_World_look_153 ?_
    refine va_get (D := (dC, dI)) (ci := 6) (v := .int (i 20)) (C := R_Output) (T := F_Output) (N := 11) hx hb htt iw_Output hown hK hP 6 xo_6 rfl 3 (Nat.le_of_ble_eq_true rfl) (htt _ lk_World_174) (fun _ h9 => h9) xg_6_3 d_World_look_156 ?_
    have e3 := re1 hm
    exact W.iret hx hb hr (fun t9 ht hW => ⟨⟨_, (), rfl, e3.symm, trivial⟩, hS.F ht⟩) hS.2.2 d_World_look_159
  replace hm := if_f c_13 hm
  rcases Classical.em (v1 = 11) with c_14 | c_14
  · replace hm := if_t c_14 hm
    refine lv_tableIn (x := v1) (tgt := 160) hx hb d_World_look_1 (by rw [c_14]; decide) (by rw [c_14]; decide) (by rw [c_14]; rfl) (by decide) ?_
    refine lv_aload_n hx hb d_World_look_160 rfl (lv_at hl 0 rfl) ?_
    refine va_get (D := (dC, dI)) (ci := 0) (v := .ref ((u 7))) (C := R_World) (T := F_World) (N := 13) hx hb htt iw_World hown hK hP 0 xo_0 rfl 5 (Nat.le_of_ble_eq_true rfl) (htt _ lk_World_56) (fun _ h9 => h9) xg_0_5 d_World_look_161 ?_
    refine va_get (D := (dC, dI)) (ci := 7) (v := .int (i 24)) (C := R_Reader) (T := F_Reader) (N := 19) hx hb htt iw_Reader hown hK hP 7 xo_7 rfl 3 (Nat.le_of_ble_eq_true rfl) (htt _ lk_World_177) (fun _ h9 => h9) xg_7_3 d_World_look_164 ?_
    have e3 := re1 hm
    exact W.iret hx hb hr (fun t9 ht hW => ⟨⟨_, (), rfl, e3.symm, trivial⟩, hS.F ht⟩) hS.2.2 d_World_look_167
  replace hm := if_f c_14 hm
  rcases Classical.em (v1 = 12) with c_15 | c_15
  · replace hm := if_t c_15 hm
    refine lv_tableIn (x := v1) (tgt := 168) hx hb d_World_look_1 (by rw [c_15]; decide) (by rw [c_15]; decide) (by rw [c_15]; rfl) (by decide) ?_
    refine lv_aload_n hx hb d_World_look_168 rfl (lv_at hl 0 rfl) ?_
    refine va_get (D := (dC, dI)) (ci := 0) (v := .ref ((u 10))) (C := R_World) (T := F_World) (N := 13) hx hb htt iw_World hown hK hP 0 xo_0 rfl 7 (Nat.le_of_ble_eq_true rfl) (htt _ lk_World_75) (fun _ h9 => h9) xg_0_7 d_World_look_169 ?_
    refine va_get (D := (dC, dI)) (ci := 10) (v := .int (i 45)) (C := R_Deeds) (T := F_Deeds) (N := 8) hx hb htt iw_Deeds hown hK hP 10 xo_10 rfl 7 (Nat.le_of_ble_eq_true rfl) (htt _ lk_World_180) (fun _ h9 => h9) xg_10_7 d_World_look_172 ?_
    have e3 := re1 hm
    exact W.iret hx hb hr (fun t9 ht hW => ⟨⟨_, (), rfl, e3.symm, trivial⟩, hS.F ht⟩) hS.2.2 d_World_look_175
  replace hm := if_f c_15 hm
  rcases Classical.em (v1 = 13) with c_16 | c_16
  · replace hm := if_t c_16 hm
    refine lv_tableIn (x := v1) (tgt := 176) hx hb d_World_look_1 (by rw [c_16]; decide) (by rw [c_16]; decide) (by rw [c_16]; rfl) (by decide) ?_
    refine lv_aload_n hx hb d_World_look_176 rfl (lv_at hl 0 rfl) ?_
    refine va_get (D := (dC, dI)) (ci := 0) (v := .ref ((u 8))) (C := R_World) (T := F_World) (N := 13) hx hb htt iw_World hown hK hP 0 xo_0 rfl 6 (Nat.le_of_ble_eq_true rfl) (htt _ lk_World_63) (fun _ h9 => h9) xg_0_6 d_World_look_177 ?_
    refine va_get (D := (dC, dI)) (ci := 8) (v := .int (i 41)) (C := R_Line) (T := F_Line) (N := 18) hx hb htt iw_Line hown hK hP 8 xo_8 rfl 7 (Nat.le_of_ble_eq_true rfl) (htt _ lk_World_183) (fun _ h9 => h9) xg_8_7 d_World_look_180 ?_
    have e3 := re1 hm
    exact W.iret hx hb hr (fun t9 ht hW => ⟨⟨_, (), rfl, e3.symm, trivial⟩, hS.F ht⟩) hS.2.2 d_World_look_183
  replace hm := if_f c_16 hm
  refine lv_tableOut (x := v1) (tgt := 184) hx hb d_World_look_1 (by have q0 := lv_neT c_1 (show (0 : Int32).toInt = 0 from by decide); have q1 := lv_neT c_2 (show (1 : Int32).toInt = 1 from by decide); have q2 := lv_neT c_3 (show (2 : Int32).toInt = 2 from by decide); have q3 := lv_neT c_4 (show (3 : Int32).toInt = 3 from by decide); have q4 := lv_neT c_5 (show (4 : Int32).toInt = 4 from by decide); have q5 := lv_neT c_8 (show (5 : Int32).toInt = 5 from by decide); have q6 := lv_neT c_9 (show (6 : Int32).toInt = 6 from by decide); have q7 := lv_neT c_10 (show (7 : Int32).toInt = 7 from by decide); have q8 := lv_neT c_11 (show (8 : Int32).toInt = 8 from by decide); have q9 := lv_neT c_12 (show (9 : Int32).toInt = 9 from by decide); have q10 := lv_neT c_13 (show (10 : Int32).toInt = 10 from by decide); have q11 := lv_neT c_14 (show (11 : Int32).toInt = 11 from by decide); have q12 := lv_neT c_15 (show (12 : Int32).toInt = 12 from by decide); have q13 := lv_neT c_16 (show (13 : Int32).toInt = 13 from by decide); omega) (by decide) ?_
  refine lv_iconst (v := -1) hx hb d_World_look_184 (by decide) ?_
  have e3 := re1 hm
  exact W.iret hx hb hr (fun t9 ht hW => ⟨⟨_, (), rfl, e3.symm, trivial⟩, hS.F ht⟩) hS.2.2 d_World_look_185

def m_Turtles_colourAt (n : Nat) (g : Nat → Nat) (i : Nat → Int32) (a : Nat → Nat → Int32) (v1 : Int32) (v2 : Int32) : Option (Int32) := ob0 (m_Turtles_onScreen n v1.toInt64 v2.toInt64) (fun r_2 => if r_2 = ((0 : Int32)) then some ((-1)) else ob0 (m_Turtles_dotAt n v1 v2) (fun r_5 => ck r_5 4096 (some (a 21 r_5.toNatClampNeg))))
set_option maxHeartbeats 4000000 in
set_option maxRecDepth 100000 in
theorem x_Turtles_colourAt (l : Launch) (dC : Nat → ClassId) (dI : Nat → Nat → Nat) (cI : ClassId) (adK adV adA u o g : Nat → Nat) (sz : Nat) (n : Nat) {i : Nat → Int32} {a : Nat → Nat → Int32} {v1 : Int32} {v2 : Int32} {r2 : Int32} (hm : m_Turtles_colourAt n g i a v1 v2 = some r2) : Met l y_Turtles_colourAt w_Turtles_colourAt ({ frames := 1, cells := 0, slots := 0, locals := 23 } : Room) (va_Pc [.ref ((u 5)), .int v1, .int v2] (xEr dC dI cI adK adV adA u o g i a sz)) (va_Qi (xR r2) xT (xN sz)) 0 0 (xN sz) := by
  refine Met.ofW (cc := b_Turtles_colourAt) (maxL := 3) (ret := (some .int)) (by decide) rfl ?_
  intro p e s m args below meth c s₁ B hml hv
  obtain ⟨rfl, hsz, hP, hK, hE⟩ := hv
  have hx := B.exec
  have hb := B.bytes
  have hr := B.returns
  have hts := atoms_spec (ws := w_Turtles_colourAt) B.pre
  have htt : ∀ w ∈ tw_T, w.before _ s = true := fun w h => hts w (List.mem_cons_of_mem _ h)
  have hown : s.vm.findClass R_Turtles = some m.cls := findClass_of_methodNamed B.named
  have hlocks := B.notSynchronized
  subst hsz
  generalize hAe : xN s.heap.size = A at hE ⊢
  have hA : ∀ q : Nat, s.heap.size ≤ q → A q := fun q h => by rw [← hAe]; exact Or.inr h
  have hS : va_S A s.heap s.heap [] := va_S.rf
  have hl := lv_entry ([.ref ((u 5)), .int v1, .int v2]) (n := 3) (Nat.le_of_ble_eq_true rfl)
  rw [lg_entry_eq]
  generalize (lg_sl ([.ref ((u 5)), .int v1, .int v2]) ++ List.replicate (3 - (lg_sl ([.ref ((u 5)), .int v1, .int v2])).length) Slot.unset).toArray = ls at hl ⊢
  have hl : lv_has ls 3 [(0, .ref ((u 5))), (1, .int v1), (2, .int v2)] := hl
  rw [m_Turtles_colourAt] at hm
  refine lv_iload_n hx hb d_Turtles_colourAt_0 rfl (lv_at hl 1 rfl) ?_
  refine lv_i2l hx hb d_Turtles_colourAt_1 rfl ?_
  refine lv_iload_n hx hb d_Turtles_colourAt_2 rfl (lv_at hl 2 rfl) ?_
  refine lv_i2l hx hb d_Turtles_colourAt_3 rfl ?_
  obtain ⟨r_2, h_1, hm⟩ := ob0_some hm
  have hFc := x_free0 hS hA
  refine va_calli (va_runS (As := [.long v1.toInt64, .long v2.toInt64]) (rest := []) ⟨hx, hb, hml, hown, hts⟩ (x_Turtles_onScreen l s.heap.size n h_1) (va_cwS 2 hts (tw_GS tw_cons cw_Turtles_onScreen lk_Turtles_115 st_Turtles_onScreen ini_Turtles) rfl rfl rfl hd_Turtles_onScreen ⟨Nat.le_of_ble_eq_true rfl, Nat.le_of_ble_eq_true rfl⟩) xpS0 rfl rfl hl.1 rfl (lv_room (Nat.le_of_ble_eq_true rfl)) d_Turtles_colourAt_4 ⟨Nat.le_of_ble_eq_true rfl, Nat.le_of_ble_eq_true rfl⟩) hS (fun q _ h => hFc q h) hFc (fun r9 u9 t9 H locs ht hvm e9 hB hz1 hk1 hS => ?_)
  have e9 : r_2 = r9 := e9
  subst e9
  replace hP := x_keep hP hk1
  clear hFc hk1 hz1 hvm hB ht
  refine lv_if_eq (tgt := 23) hx hb d_Turtles_colourAt_7 (by decide) (fun c_3 => ?_) (fun c_3 => ?_)
  · replace hm := if_t c_3 hm
    refine lv_iconst (v := -1) hx hb d_Turtles_colourAt_23 (by decide) ?_
    have e3 := re1 hm
    exact W.iret hx hb hr (fun t9 ht hW => ⟨⟨_, (), rfl, e3.symm, trivial⟩, hS.F ht⟩) hS.2.2 d_Turtles_colourAt_24
  · replace hm := if_f c_3 hm
    refine lv_aload_n hx hb d_Turtles_colourAt_10 rfl (lv_at hl 0 rfl) ?_
    refine va_get (D := (dC, dI)) (ci := 5) (v := .ref ((u 31))) (C := R_Turtles) (T := F_Turtles) (N := 8) hx hb htt iw_Turtles hown hK hP 5 xo_5 rfl 1 (Nat.le_of_ble_eq_true rfl) (htt _ lk_Turtles_15) (fun _ h9 => h9) xg_5_1 d_Turtles_colourAt_11 ?_
    refine lv_iload_n hx hb d_Turtles_colourAt_14 rfl (lv_at hl 1 rfl) ?_
    refine lv_iload_n hx hb d_Turtles_colourAt_15 rfl (lv_at hl 2 rfl) ?_
    obtain ⟨r_5, h_4, hm⟩ := ob0_some hm
    have hFc := x_free0 hS hA
    refine va_calli (va_runS (As := [.int v1, .int v2]) (rest := [.ref ((u 31))]) ⟨hx, hb, hml, hown, hts⟩ (x_Turtles_dotAt l H.size n h_4) (va_cwS 2 hts (tw_GS tw_cons cw_Turtles_dotAt lk_Turtles_110 st_Turtles_dotAt ini_Turtles) rfl rfl rfl hd_Turtles_dotAt ⟨Nat.le_of_ble_eq_true rfl, Nat.le_of_ble_eq_true rfl⟩) xpS0 rfl rfl hl.1 rfl (lv_room (Nat.le_of_ble_eq_true rfl)) d_Turtles_colourAt_16 ⟨Nat.le_of_ble_eq_true rfl, Nat.le_of_ble_eq_true rfl⟩) hS (fun q _ h => hFc q h) hFc (fun r9 u9 t9 H locs ht hvm e9 hB hz1 hk1 hS => ?_)
    have e9 : r_5 = r9 := e9
    subst e9
    replace hP := x_keep hP hk1
    clear hFc hk1 hz1 hvm hB ht
    obtain ⟨h_6, hm⟩ := ck_some hm
    refine va_iald hx hb hK hP 33 0 twA_21 rfl h_6 d_Turtles_colourAt_19 ?_
    refine lv_goto (tgt := 24) hx hb d_Turtles_colourAt_20 (by decide) ?_
    have e3 := re1 hm
    exact W.iret hx hb hr (fun t9 ht hW => ⟨⟨_, (), rfl, e3.symm, trivial⟩, hS.F ht⟩) hS.2.2 d_Turtles_colourAt_24

def m_World_out (n : Nat) (g : Nat → Nat) (i : Nat → Int32) (a : Nat → Nat → Int32) (v1 : Int32) : Option (Int32) := ob0 (m_Output_latest n g i a v1) (fun r_2 => some r_2)
set_option maxHeartbeats 4000000 in
set_option maxRecDepth 100000 in
theorem x_World_out (l : Launch) (dC : Nat → ClassId) (dI : Nat → Nat → Nat) (cI : ClassId) (adK adV adA u o g : Nat → Nat) (sz : Nat) (n : Nat) {i : Nat → Int32} {a : Nat → Nat → Int32} {v1 : Int32} {r2 : Int32} (hm : m_World_out n g i a v1 = some r2) : Met l y_World_out w_World_out ({ frames := 2, cells := 0, slots := 0, locals := 43 } : Room) (va_Pc [.ref ((u 0)), .int v1] (xEr dC dI cI adK adV adA u o g i a sz)) (va_Qi (xR r2) xT (xN sz)) 0 0 (xN sz) := by
  refine Met.ofW (cc := b_World_out) (maxL := 2) (ret := (some .int)) (by decide) rfl ?_
  intro p e s m args below meth c s₁ B hml hv
  obtain ⟨rfl, hsz, hP, hK, hE⟩ := hv
  have hx := B.exec
  have hb := B.bytes
  have hr := B.returns
  have hts := atoms_spec (ws := w_World_out) B.pre
  have htt : ∀ w ∈ tw_T, w.before _ s = true := fun w h => hts w (List.mem_cons_of_mem _ h)
  have hown : s.vm.findClass R_World = some m.cls := findClass_of_methodNamed B.named
  have hlocks := B.notSynchronized
  subst hsz
  generalize hAe : xN s.heap.size = A at hE ⊢
  have hA : ∀ q : Nat, s.heap.size ≤ q → A q := fun q h => by rw [← hAe]; exact Or.inr h
  have hS : va_S A s.heap s.heap [] := va_S.rf
  have hl := lv_entry ([.ref ((u 0)), .int v1]) (n := 2) (Nat.le_of_ble_eq_true rfl)
  rw [lg_entry_eq]
  generalize (lg_sl ([.ref ((u 0)), .int v1]) ++ List.replicate (2 - (lg_sl ([.ref ((u 0)), .int v1])).length) Slot.unset).toArray = ls at hl ⊢
  have hl : lv_has ls 2 [(0, .ref ((u 0))), (1, .int v1)] := hl
  rw [m_World_out] at hm
  refine lv_aload_n hx hb d_World_out_0 rfl (lv_at hl 0 rfl) ?_
  refine va_get (D := (dC, dI)) (ci := 0) (v := .ref ((u 6))) (C := R_World) (T := F_World) (N := 13) hx hb htt iw_World hown hK hP 0 xo_0 rfl 4 (Nat.le_of_ble_eq_true rfl) (htt _ lk_World_47) (fun _ h9 => h9) xg_0_4 d_World_out_1 ?_
  refine lv_iload_n hx hb d_World_out_4 rfl (lv_at hl 1 rfl) ?_
  obtain ⟨r_2, h_1, hm⟩ := ob0_some hm
  have hFc := x_free0 hS hA
  refine va_calli (va_runV (As := [.int v1]) (rest := []) ⟨hx, hb, hml, hown, hts⟩ (x_Output_latest l dC dI cI adK adV adA u o g s.heap.size n h_1) (cwV 1 hts (tw_GV tw_cons cw_Output_latest lk_World_203 in_Output_latest sel_Output_latest ini_Output) rfl rfl rfl ⟨rfl, hd_Output_latest⟩ ⟨Nat.le_of_ble_eq_true rfl, Nat.le_of_ble_eq_true rfl⟩) (xpVr hK hP hS hE hFc xo_6 rfl) rfl rfl hl.1 rfl (lv_room (Nat.le_of_ble_eq_true rfl)) d_World_out_5 ⟨Nat.le_of_ble_eq_true rfl, Nat.le_of_ble_eq_true rfl⟩) hS (fun q _ h => hFc q h) hFc (fun r9 u9 t9 H locs ht hvm e9 hB hz1 hk1 hS => ?_)
  have e9 : r_2 = r9 := e9
  subst e9
  replace hP := x_keep hP hk1
  clear hFc hk1 hz1 hvm hB ht
  have e3 := re1 hm
  exact W.iret hx hb hr (fun t9 ht hW => ⟨⟨_, (), rfl, e3.symm, trivial⟩, hS.F ht⟩) hS.2.2 d_World_out_8

def m_Heap_letter (n : Nat) (g : Nat → Nat) (i : Nat → Int32) (a : Nat → Nat → Int32) (v1 : Int32) (v2 : Int32) : Option (Int32) := ob0 (m_Heap_isWord n v1) (fun r_2 => if r_2 = ((0 : Int32)) then some ((-1)) else if v2 < ((0 : Int32)) then some ((-1)) else ob0 (m_Heap_size n g i a v1) (fun r_6 => if r_6 ≤ v2 then some ((-1)) else ck (((v1 >>> ((2 : Int32) &&& 31)) + v2)) (g 0) (some (a 0 ((v1 >>> ((2 : Int32) &&& 31)) + v2).toNatClampNeg))))
set_option maxHeartbeats 4000000 in
set_option maxRecDepth 100000 in
theorem x_Heap_letter (l : Launch) (dC : Nat → ClassId) (dI : Nat → Nat → Nat) (cI : ClassId) (adK adV adA u o g : Nat → Nat) (sz : Nat) (n : Nat) {i : Nat → Int32} {a : Nat → Nat → Int32} {v1 : Int32} {v2 : Int32} {r2 : Int32} (hm : m_Heap_letter n g i a v1 v2 = some r2) : Met l y_Heap_letter w_Heap_letter ({ frames := 1, cells := 0, slots := 0, locals := 24 } : Room) (va_Pc [.ref ((u 1)), .int v1, .int v2] (xEr dC dI cI adK adV adA u o g i a sz)) (va_Qi (xR r2) xT (xN sz)) 0 0 (xN sz) := by
  refine Met.ofW (cc := b_Heap_letter) (maxL := 3) (ret := (some .int)) (by decide) rfl ?_
  intro p e s m args below meth c s₁ B hml hv
  obtain ⟨rfl, hsz, hP, hK, hE⟩ := hv
  have hx := B.exec
  have hb := B.bytes
  have hr := B.returns
  have hts := atoms_spec (ws := w_Heap_letter) B.pre
  have htt : ∀ w ∈ tw_T, w.before _ s = true := fun w h => hts w (List.mem_cons_of_mem _ h)
  have hown : s.vm.findClass R_Heap = some m.cls := findClass_of_methodNamed B.named
  have hlocks := B.notSynchronized
  subst hsz
  generalize hAe : xN s.heap.size = A at hE ⊢
  have hA : ∀ q : Nat, s.heap.size ≤ q → A q := fun q h => by rw [← hAe]; exact Or.inr h
  have hS : va_S A s.heap s.heap [] := va_S.rf
  have hl := lv_entry ([.ref ((u 1)), .int v1, .int v2]) (n := 3) (Nat.le_of_ble_eq_true rfl)
  rw [lg_entry_eq]
  generalize (lg_sl ([.ref ((u 1)), .int v1, .int v2]) ++ List.replicate (3 - (lg_sl ([.ref ((u 1)), .int v1, .int v2])).length) Slot.unset).toArray = ls at hl ⊢
  have hl : lv_has ls 3 [(0, .ref ((u 1))), (1, .int v1), (2, .int v2)] := hl
  rw [m_Heap_letter] at hm
  refine lv_iload_n hx hb d_Heap_letter_0 rfl (lv_at hl 1 rfl) ?_
  obtain ⟨r_2, h_1, hm⟩ := ob0_some hm
  have hFc := x_free0 hS hA
  refine va_calli (va_runS (As := [.int v1]) (rest := []) ⟨hx, hb, hml, hown, hts⟩ (x_Heap_isWord l s.heap.size n h_1) (va_cwS 1 hts (tw_GS tw_cons cw_Heap_isWord lk_Heap_129 st_Heap_isWord ini_Heap) rfl rfl rfl hd_Heap_isWord ⟨Nat.le_of_ble_eq_true rfl, Nat.le_of_ble_eq_true rfl⟩) xpS0 rfl rfl hl.1 rfl (lv_room (Nat.le_of_ble_eq_true rfl)) d_Heap_letter_1 ⟨Nat.le_of_ble_eq_true rfl, Nat.le_of_ble_eq_true rfl⟩) hS (fun q _ h => hFc q h) hFc (fun r9 u9 t9 H locs ht hvm e9 hB hz1 hk1 hS => ?_)
  have e9 : r_2 = r9 := e9
  subst e9
  replace hP := x_keep hP hk1
  clear hFc hk1 hz1 hvm hB ht
  refine lv_if_eq (tgt := 33) hx hb d_Heap_letter_4 (by decide) (fun c_3 => ?_) (fun c_3 => ?_)
  · replace hm := if_t c_3 hm
    refine lv_iconst (v := -1) hx hb d_Heap_letter_33 (by decide) ?_
    have e3 := re1 hm
    exact W.iret hx hb hr (fun t9 ht hW => ⟨⟨_, (), rfl, e3.symm, trivial⟩, hS.F ht⟩) hS.2.2 d_Heap_letter_34
  · replace hm := if_f c_3 hm
    refine lv_iload_n hx hb d_Heap_letter_7 rfl (lv_at hl 2 rfl) ?_
    refine lv_if_lt (tgt := 33) hx hb d_Heap_letter_8 (by decide) (fun c_4 => ?_) (fun c_4 => ?_)
    · replace hm := if_t c_4 hm
      refine lv_iconst (v := -1) hx hb d_Heap_letter_33 (by decide) ?_
      have e3 := re1 hm
      exact W.iret hx hb hr (fun t9 ht hW => ⟨⟨_, (), rfl, e3.symm, trivial⟩, hS.F ht⟩) hS.2.2 d_Heap_letter_34
    · replace hm := if_f c_4 hm
      refine lv_iload_n hx hb d_Heap_letter_11 rfl (lv_at hl 2 rfl) ?_
      refine lv_aload_n hx hb d_Heap_letter_12 rfl (lv_at hl 0 rfl) ?_
      refine lv_iload_n hx hb d_Heap_letter_13 rfl (lv_at hl 1 rfl) ?_
      obtain ⟨r_6, h_5, hm⟩ := ob0_some hm
      have hFc := x_free0 hS hA
      refine va_calli (va_runV (As := [.int v1]) (rest := [.int v2]) ⟨hx, hb, hml, hown, hts⟩ (x_Heap_size l dC dI cI adK adV adA u o g H.size n h_5) (cwV 1 hts (tw_GV tw_cons cw_Heap_size lk_Heap_119 in_Heap_size sel_Heap_size ini_Heap) rfl rfl rfl ⟨rfl, hd_Heap_size⟩ ⟨Nat.le_of_ble_eq_true rfl, Nat.le_of_ble_eq_true rfl⟩) (xpVr hK hP hS hE hFc xo_1 rfl) rfl rfl hl.1 rfl (lv_room (Nat.le_of_ble_eq_true rfl)) d_Heap_letter_14 ⟨Nat.le_of_ble_eq_true rfl, Nat.le_of_ble_eq_true rfl⟩) hS (fun q _ h => hFc q h) hFc (fun r9 u9 t9 H locs ht hvm e9 hB hz1 hk1 hS => ?_)
      have e9 : r_6 = r9 := e9
      subst e9
      replace hP := x_keep hP hk1
      clear hFc hk1 hz1 hvm hB ht
      refine lv_icmp_ge (tgt := 33) hx hb d_Heap_letter_17 (by decide) (fun c_7 => ?_) (fun c_7 => ?_)
      · replace hm := if_t c_7 hm
        refine lv_iconst (v := -1) hx hb d_Heap_letter_33 (by decide) ?_
        have e3 := re1 hm
        exact W.iret hx hb hr (fun t9 ht hW => ⟨⟨_, (), rfl, e3.symm, trivial⟩, hS.F ht⟩) hS.2.2 d_Heap_letter_34
      · replace hm := if_f c_7 hm
        refine lv_aload_n hx hb d_Heap_letter_20 rfl (lv_at hl 0 rfl) ?_
        refine va_get (D := (dC, dI)) (ci := 1) (v := .ref ((o 0))) (C := R_Heap) (T := F_Heap) (N := 12) hx hb htt iw_Heap hown hK hP 1 xo_1 rfl 5 (Nat.le_of_ble_eq_true rfl) (htt _ lk_Heap_11) (fun _ h9 => h9) xg_1_5 d_Heap_letter_21 ?_
        refine lv_iload_n hx hb d_Heap_letter_24 rfl (lv_at hl 1 rfl) ?_
        refine lv_iconst (v := 2) hx hb d_Heap_letter_25 (by decide) ?_
        refine lv_ishr hx hb d_Heap_letter_26 ?_
        refine lv_iload_n hx hb d_Heap_letter_27 rfl (lv_at hl 2 rfl) ?_
        refine lv_iadd hx hb d_Heap_letter_28 ?_
        obtain ⟨h_8, hm⟩ := ck_some hm
        refine va_iald hx hb hK hP 12 0 twA_0 rfl h_8 d_Heap_letter_29 ?_
        refine lv_goto (tgt := 34) hx hb d_Heap_letter_30 (by decide) ?_
        have e3 := re1 hm
        exact W.iret hx hb hr (fun t9 ht hW => ⟨⟨_, (), rfl, e3.symm, trivial⟩, hS.F ht⟩) hS.2.2 d_Heap_letter_34

def m_World_call_b86 (n : Nat) (g : Nat → Nat) (i : Nat → Int32) (a : Nat → Nat → Int32) (v2 : Int32) (v4 : Int32) (s0 : Int32) : Option (Int32) := if v2 = ((1 : Int32)) then some (s0 - v4) else ob0 (m_Names_countValues n g i a v4 s0) (fun r_3 => some r_3)
set_option maxHeartbeats 4000000 in
set_option maxRecDepth 100000 in
theorem lb_World_call_86 (l : Launch) (dC : Nat → ClassId) (dI : Nat → Nat → Nat) (cI : ClassId) (adK adV adA u o g : Nat → Nat) (n : Nat) {p : Program} {e : Env} {s : State} {m : MethodId} {args : Array Value} {below : List Frame} {meth : Method} {c : Code} {A : Nat → Prop} (hx : p.tables.exec = Jvm.exec) (hb : c.code = b_World_call) (hml : c.maxLocals = 7) (hown : s.vm.findClass R_World = some m.cls) (hts : ∀ w ∈ w_World_call, w.before args s = true) (hK : va_K (dC, dI) classes [(cI, .int)] s) (hE : tw_E adK adV adA A s s.heap) (hA : ∀ q : Nat, s.heap.size ≤ q → A q) (hr : meth.sig.returnType = (some .int)) (hlocks : meth.locks = false) {i : Nat → Int32} {a : Nat → Nat → Int32} {r2 : Int32} (v2 : Int32) (v4 : Int32) (s0 : Int32) (hm : m_World_call_b86 n g i a v2 v4 s0 = some r2) : ∀ (H : Heap) (locs : List Loc) (ls : Array Slot), va_P (dC, dI) classes (TW cI u o i a g) H → va_S A s.heap H locs → lv_has ls 7 [(0, .ref ((u 0))), (2, .int v2), (4, .int v4)] → W p l e ({ frames := 2, cells := 0, slots := 0, locals := 45 } : Room) s m args below meth c H locs 0 0 (MQ below (va_Qi (xR r2) xT A) args s 0 0 A) (F0 m 86 ls [.int s0]) := by
  have htt : ∀ w ∈ tw_T, w.before _ s = true := fun w h => hts w (List.mem_cons_of_mem _ h)
  intro H locs ls hP hS hl
  rw [m_World_call_b86] at hm
  refine lv_istore (lv' := [(6, .int s0), (0, .ref ((u 0))), (2, .int v2), (4, .int v4)]) hx hb d_World_call_86 hl (by decide) rfl (fun ls hl => ?_)
  refine lv_iload_n hx hb d_World_call_88 rfl (lv_at hl 2 rfl) ?_
  refine lv_iconst (v := 1) hx hb d_World_call_89 (by decide) ?_
  refine lv_icmp_ne (tgt := 101) hx hb d_World_call_90 (by decide) (fun c_1 => ?_) (fun c_1 => ?_)
  · replace hm := if_f c_1 hm
    refine lv_aload_n hx hb d_World_call_101 rfl (lv_at hl 1 rfl) ?_
    refine va_get (D := (dC, dI)) (ci := 0) (v := .ref ((u 3))) (C := R_World) (T := F_World) (N := 13) hx hb htt iw_World hown hK hP 0 xo_0 rfl 1 (Nat.le_of_ble_eq_true rfl) (htt _ lk_World_26) (fun _ h9 => h9) xg_0_1 d_World_call_102 ?_
    refine lv_iload hx hb d_World_call_105 (lv_at hl 3 rfl) ?_
    refine lv_iload hx hb d_World_call_107 (lv_at hl 0 rfl) ?_
    obtain ⟨r_3, h_2, hm⟩ := ob0_some hm
    have hFc := x_free0 hS hA
    refine va_calli (va_runV (As := [.int v4, .int s0]) (rest := []) ⟨hx, hb, hml, hown, hts⟩ (x_Names_countValues l dC dI cI adK adV adA u o g H.size n h_2) (cwV 2 hts (tw_GV tw_cons cw_Names_countValues lk_World_245 in_Names_countValues sel_Names_countValues ini_Names) rfl rfl rfl ⟨rfl, hd_Names_countValues⟩ ⟨Nat.le_of_ble_eq_true rfl, Nat.le_of_ble_eq_true rfl⟩) (xpVr hK hP hS hE hFc xo_3 rfl) rfl rfl hl.1 rfl (lv_room (Nat.le_of_ble_eq_true rfl)) d_World_call_109 ⟨Nat.le_of_ble_eq_true rfl, Nat.le_of_ble_eq_true rfl⟩) hS (fun q _ h => hFc q h) hFc (fun r9 u9 t9 H locs ht hvm e9 hB hz1 hk1 hS => ?_)
    have e9 : r_3 = r9 := e9
    subst e9
    replace hP := x_keep hP hk1
    clear hFc hk1 hz1 hvm hB ht
    have e3 := re1 hm
    exact W.iret hx hb hr (fun t9 ht hW => ⟨⟨_, (), rfl, e3.symm, trivial⟩, hS.F ht⟩) hS.2.2 d_World_call_112
  · replace hm := if_t c_1 hm
    refine lv_iload hx hb d_World_call_93 (lv_at hl 0 rfl) ?_
    refine lv_iload hx hb d_World_call_95 (lv_at hl 3 rfl) ?_
    refine lv_isub hx hb d_World_call_97 ?_
    refine lv_goto (tgt := 112) hx hb d_World_call_98 (by decide) ?_
    have e3 := re1 hm
    exact W.iret hx hb hr (fun t9 ht hW => ⟨⟨_, (), rfl, e3.symm, trivial⟩, hS.F ht⟩) hS.2.2 d_World_call_112
def m_World_call (n : Nat) (g : Nat → Nat) (i : Nat → Int32) (a : Nat → Nat → Int32) (v1 : Int32) (v2 : Int32) : Option (Int32) := ob0 (m_Line_callAt n g i a v1) (fun r_2 => if r_2 < ((0 : Int32)) then some ((-1)) else if v2 < ((0 : Int32)) then some ((-1)) else if v2 ≤ ((2 : Int32)) then if v2 = ((0 : Int32)) then ck r_2 150 (some (a 43 r_2.toNatClampNeg)) else ck r_2 150 (ob1 (a 46 r_2.toNatClampNeg : Int32) (fun x_8 => ob0 (m_Line_callAt n g i a (v1 - 1)) (fun r_10 => if ((0 : Int32)) ≤ r_10 then ck r_10 150 (m_World_call_b86 n g i a v2 x_8 (a 46 r_10.toNatClampNeg)) else m_World_call_b86 n g i a v2 x_8 (i 13)))) else some ((-1)))
set_option maxHeartbeats 4000000 in
set_option maxRecDepth 100000 in
theorem x_World_call (l : Launch) (dC : Nat → ClassId) (dI : Nat → Nat → Nat) (cI : ClassId) (adK adV adA u o g : Nat → Nat) (sz : Nat) (n : Nat) {i : Nat → Int32} {a : Nat → Nat → Int32} {v1 : Int32} {v2 : Int32} {r2 : Int32} (hm : m_World_call n g i a v1 v2 = some r2) : Met l y_World_call w_World_call ({ frames := 2, cells := 0, slots := 0, locals := 45 } : Room) (va_Pc [.ref ((u 0)), .int v1, .int v2] (xEr dC dI cI adK adV adA u o g i a sz)) (va_Qi (xR r2) xT (xN sz)) 0 0 (xN sz) := by
  refine Met.ofW (cc := b_World_call) (maxL := 7) (ret := (some .int)) (by decide) rfl ?_
  intro p e s m args below meth c s₁ B hml hv
  obtain ⟨rfl, hsz, hP, hK, hE⟩ := hv
  have hx := B.exec
  have hb := B.bytes
  have hr := B.returns
  have hts := atoms_spec (ws := w_World_call) B.pre
  have htt : ∀ w ∈ tw_T, w.before _ s = true := fun w h => hts w (List.mem_cons_of_mem _ h)
  have hown : s.vm.findClass R_World = some m.cls := findClass_of_methodNamed B.named
  have hlocks := B.notSynchronized
  subst hsz
  generalize hAe : xN s.heap.size = A at hE ⊢
  have hA : ∀ q : Nat, s.heap.size ≤ q → A q := fun q h => by rw [← hAe]; exact Or.inr h
  have hS : va_S A s.heap s.heap [] := va_S.rf
  have hl := lv_entry ([.ref ((u 0)), .int v1, .int v2]) (n := 7) (Nat.le_of_ble_eq_true rfl)
  rw [lg_entry_eq]
  generalize (lg_sl ([.ref ((u 0)), .int v1, .int v2]) ++ List.replicate (7 - (lg_sl ([.ref ((u 0)), .int v1, .int v2])).length) Slot.unset).toArray = ls at hl ⊢
  have hl : lv_has ls 7 [(0, .ref ((u 0))), (1, .int v1), (2, .int v2)] := hl
  rw [m_World_call] at hm
  refine lv_aload_n hx hb d_World_call_0 rfl (lv_at hl 0 rfl) ?_
  refine va_get (D := (dC, dI)) (ci := 0) (v := .ref ((u 8))) (C := R_World) (T := F_World) (N := 13) hx hb htt iw_World hown hK hP 0 xo_0 rfl 6 (Nat.le_of_ble_eq_true rfl) (htt _ lk_World_63) (fun _ h9 => h9) xg_0_6 d_World_call_1 ?_
  refine lv_iload_n hx hb d_World_call_4 rfl (lv_at hl 1 rfl) ?_
  obtain ⟨r_2, h_1, hm⟩ := ob0_some hm
  have hFc := x_free0 hS hA
  refine va_calli (va_runV (As := [.int v1]) (rest := []) ⟨hx, hb, hml, hown, hts⟩ (x_Line_callAt l dC dI cI adK adV adA u o g s.heap.size n h_1) (cwV 1 hts (tw_GV tw_cons cw_Line_callAt lk_World_234 in_Line_callAt sel_Line_callAt ini_Line) rfl rfl rfl ⟨rfl, hd_Line_callAt⟩ ⟨Nat.le_of_ble_eq_true rfl, Nat.le_of_ble_eq_true rfl⟩) (xpVr hK hP hS hE hFc xo_8 rfl) rfl rfl hl.1 rfl (lv_room (Nat.le_of_ble_eq_true rfl)) d_World_call_5 ⟨Nat.le_of_ble_eq_true rfl, Nat.le_of_ble_eq_true rfl⟩) hS (fun q _ h => hFc q h) hFc (fun r9 u9 t9 H locs ht hvm e9 hB hz1 hk1 hS => ?_)
  have e9 : r_2 = r9 := e9
  subst e9
  replace hP := x_keep hP hk1
  clear hFc hk1 hz1 hvm hB ht
  refine lv_istore_n (lv' := [(3, .int r_2), (0, .ref ((u 0))), (1, .int v1), (2, .int v2)]) hx hb d_World_call_8 rfl hl (by decide) rfl (fun ls hl => ?_)
  refine lv_iload_n hx hb d_World_call_9 rfl (lv_at hl 0 rfl) ?_
  refine lv_if_lt (tgt := 22) hx hb d_World_call_10 (by decide) (fun c_3 => ?_) (fun c_3 => ?_)
  · replace hm := if_t c_3 hm
    refine lv_iconst (v := -1) hx hb d_World_call_22 (by decide) ?_
    have e3 := re1 hm
    exact W.iret hx hb hr (fun t9 ht hW => ⟨⟨_, (), rfl, e3.symm, trivial⟩, hS.F ht⟩) hS.2.2 d_World_call_23
  · replace hm := if_f c_3 hm
    refine lv_iload_n hx hb d_World_call_13 rfl (lv_at hl 3 rfl) ?_
    refine lv_if_lt (tgt := 22) hx hb d_World_call_14 (by decide) (fun c_4 => ?_) (fun c_4 => ?_)
    · replace hm := if_t c_4 hm
      refine lv_iconst (v := -1) hx hb d_World_call_22 (by decide) ?_
      have e3 := re1 hm
      exact W.iret hx hb hr (fun t9 ht hW => ⟨⟨_, (), rfl, e3.symm, trivial⟩, hS.F ht⟩) hS.2.2 d_World_call_23
    · replace hm := if_f c_4 hm
      refine lv_iload_n hx hb d_World_call_17 rfl (lv_at hl 3 rfl) ?_
      refine lv_iconst (v := 2) hx hb d_World_call_18 (by decide) ?_
      refine lv_icmp_le (tgt := 24) hx hb d_World_call_19 (by decide) (fun c_5 => ?_) (fun c_5 => ?_)
      · replace hm := if_t c_5 hm
        refine lv_iload_n hx hb d_World_call_24 rfl (lv_at hl 3 rfl) ?_
        refine lv_if_ne (tgt := 38) hx hb d_World_call_25 (by decide) (fun c_6 => ?_) (fun c_6 => ?_)
        · replace hm := if_f c_6 hm
          refine lv_aload_n hx hb d_World_call_38 rfl (lv_at hl 1 rfl) ?_
          refine va_get (D := (dC, dI)) (ci := 0) (v := .ref ((u 8))) (C := R_World) (T := F_World) (N := 13) hx hb htt iw_World hown hK hP 0 xo_0 rfl 6 (Nat.le_of_ble_eq_true rfl) (htt _ lk_World_63) (fun _ h9 => h9) xg_0_6 d_World_call_39 ?_
          refine va_get (D := (dC, dI)) (ci := 8) (v := .ref ((u 56))) (C := R_Line) (T := F_Line) (N := 18) hx hb htt iw_Line hown hK hP 8 xo_8 rfl 17 (Nat.le_of_ble_eq_true rfl) (htt _ lk_World_240) (fun _ h9 => h9) xg_8_17 d_World_call_42 ?_
          refine lv_iload_n hx hb d_World_call_45 rfl (lv_at hl 0 rfl) ?_
          obtain ⟨h_7, hm⟩ := ck_some hm
          refine va_iald hx hb hK hP 58 0 twA_46 rfl h_7 d_World_call_46 ?_
          refine lv_topi (fun x_8 ex_8 => ?_)
          replace hm := ob1_at ex_8 hm
          refine lv_istore (lv' := [(4, .int x_8), (3, .int r_2), (0, .ref ((u 0))), (1, .int v1), (2, .int v2)]) hx hb d_World_call_47 hl (by decide) rfl (fun ls hl => ?_)
          refine lv_aload_n hx hb d_World_call_49 rfl (lv_at hl 2 rfl) ?_
          refine va_get (D := (dC, dI)) (ci := 0) (v := .ref ((u 8))) (C := R_World) (T := F_World) (N := 13) hx hb htt iw_World hown hK hP 0 xo_0 rfl 6 (Nat.le_of_ble_eq_true rfl) (htt _ lk_World_63) (fun _ h9 => h9) xg_0_6 d_World_call_50 ?_
          refine lv_iload_n hx hb d_World_call_53 rfl (lv_at hl 3 rfl) ?_
          refine lv_iconst (v := 1) hx hb d_World_call_54 (by decide) ?_
          refine lv_isub hx hb d_World_call_55 ?_
          obtain ⟨r_10, h_9, hm⟩ := ob0_some hm
          have hFc := x_free0 hS hA
          refine va_calli (va_runV (As := [.int (v1 - 1)]) (rest := []) ⟨hx, hb, hml, hown, hts⟩ (x_Line_callAt l dC dI cI adK adV adA u o g H.size n h_9) (cwV 1 hts (tw_GV tw_cons cw_Line_callAt lk_World_234 in_Line_callAt sel_Line_callAt ini_Line) rfl rfl rfl ⟨rfl, hd_Line_callAt⟩ ⟨Nat.le_of_ble_eq_true rfl, Nat.le_of_ble_eq_true rfl⟩) (xpVr hK hP hS hE hFc xo_8 rfl) rfl rfl hl.1 rfl (lv_room (Nat.le_of_ble_eq_true rfl)) d_World_call_56 ⟨Nat.le_of_ble_eq_true rfl, Nat.le_of_ble_eq_true rfl⟩) hS (fun q _ h => hFc q h) hFc (fun r9 u9 t9 H locs ht hvm e9 hB hz1 hk1 hS => ?_)
          have e9 : r_10 = r9 := e9
          subst e9
          replace hP := x_keep hP hk1
          clear hFc hk1 hz1 hvm hB ht
          refine lv_istore (lv' := [(5, .int r_10), (4, .int x_8), (3, .int r_2), (0, .ref ((u 0))), (1, .int v1), (2, .int v2)]) hx hb d_World_call_59 hl (by decide) rfl (fun ls hl => ?_)
          refine lv_iload hx hb d_World_call_61 (lv_at hl 0 rfl) ?_
          refine lv_if_ge (tgt := 76) hx hb d_World_call_63 (by decide) (fun c_11 => ?_) (fun c_11 => ?_)
          · replace hm := if_t c_11 hm
            refine lv_aload_n hx hb d_World_call_76 rfl (lv_at hl 3 rfl) ?_
            refine va_get (D := (dC, dI)) (ci := 0) (v := .ref ((u 8))) (C := R_World) (T := F_World) (N := 13) hx hb htt iw_World hown hK hP 0 xo_0 rfl 6 (Nat.le_of_ble_eq_true rfl) (htt _ lk_World_63) (fun _ h9 => h9) xg_0_6 d_World_call_77 ?_
            refine va_get (D := (dC, dI)) (ci := 8) (v := .ref ((u 56))) (C := R_Line) (T := F_Line) (N := 18) hx hb htt iw_Line hown hK hP 8 xo_8 rfl 17 (Nat.le_of_ble_eq_true rfl) (htt _ lk_World_240) (fun _ h9 => h9) xg_8_17 d_World_call_80 ?_
            refine lv_iload hx hb d_World_call_83 (lv_at hl 0 rfl) ?_
            obtain ⟨h_12, hm⟩ := ck_some hm
            refine va_iald hx hb hK hP 58 0 twA_46 rfl h_12 d_World_call_85 ?_
            exact lb_World_call_86 l dC dI cI adK adV adA u o g n hx hb hml hown hts hK hE hA hr hlocks _ _ _ hm _ _ _ hP hS (lv_sub hl [3, 5, 1] rfl)
          · replace hm := if_f c_11 hm
            refine lv_aload_n hx hb d_World_call_66 rfl (lv_at hl 3 rfl) ?_
            refine va_get (D := (dC, dI)) (ci := 0) (v := .ref ((u 3))) (C := R_World) (T := F_World) (N := 13) hx hb htt iw_World hown hK hP 0 xo_0 rfl 1 (Nat.le_of_ble_eq_true rfl) (htt _ lk_World_26) (fun _ h9 => h9) xg_0_1 d_World_call_67 ?_
            refine va_get (D := (dC, dI)) (ci := 3) (v := .int (i 13)) (C := R_Names) (T := F_Names) (N := 9) hx hb htt iw_Names hown hK hP 3 xo_3 rfl 6 (Nat.le_of_ble_eq_true rfl) (htt _ lk_World_243) (fun _ h9 => h9) xg_3_6 d_World_call_70 ?_
            refine lv_goto (tgt := 86) hx hb d_World_call_73 (by decide) ?_
            exact lb_World_call_86 l dC dI cI adK adV adA u o g n hx hb hml hown hts hK hE hA hr hlocks _ _ _ hm _ _ _ hP hS (lv_sub hl [3, 5, 1] rfl)
        · replace hm := if_t c_6 hm
          refine lv_aload_n hx hb d_World_call_28 rfl (lv_at hl 1 rfl) ?_
          refine va_get (D := (dC, dI)) (ci := 0) (v := .ref ((u 8))) (C := R_World) (T := F_World) (N := 13) hx hb htt iw_World hown hK hP 0 xo_0 rfl 6 (Nat.le_of_ble_eq_true rfl) (htt _ lk_World_63) (fun _ h9 => h9) xg_0_6 d_World_call_29 ?_
          refine va_get (D := (dC, dI)) (ci := 8) (v := .ref ((u 53))) (C := R_Line) (T := F_Line) (N := 18) hx hb htt iw_Line hown hK hP 8 xo_8 rfl 14 (Nat.le_of_ble_eq_true rfl) (htt _ lk_World_237) (fun _ h9 => h9) xg_8_14 d_World_call_32 ?_
          refine lv_iload_n hx hb d_World_call_35 rfl (lv_at hl 0 rfl) ?_
          obtain ⟨h_13, hm⟩ := ck_some hm
          refine va_iald hx hb hK hP 55 0 twA_43 rfl h_13 d_World_call_36 ?_
          have e3 := re1 hm
          exact W.iret hx hb hr (fun t9 ht hW => ⟨⟨_, (), rfl, e3.symm, trivial⟩, hS.F ht⟩) hS.2.2 d_World_call_37
      · replace hm := if_f c_5 hm
        refine lv_iconst (v := -1) hx hb d_World_call_22 (by decide) ?_
        have e3 := re1 hm
        exact W.iret hx hb hr (fun t9 ht hW => ⟨⟨_, (), rfl, e3.symm, trivial⟩, hS.F ht⟩) hS.2.2 d_World_call_23

def m_World_sum (n : Nat) (g : Nat → Nat) (i : Nat → Int32) (a : Nat → Nat → Int32)  : Option (Int32) := ob0 (m_Turtles_sumUp n g i a) (fun r_2 => some r_2)
set_option maxHeartbeats 4000000 in
set_option maxRecDepth 100000 in
theorem x_World_sum (l : Launch) (dC : Nat → ClassId) (dI : Nat → Nat → Nat) (cI : ClassId) (adK adV adA u o g : Nat → Nat) (sz : Nat) (n : Nat) {i : Nat → Int32} {a : Nat → Nat → Int32}  {r2 : Int32} (hm : m_World_sum n g i a = some r2) : Met l y_World_sum w_World_sum ({ frames := 1, cells := 0, slots := 0, locals := 22 } : Room) (va_Pc [.ref ((u 0))] (xEr dC dI cI adK adV adA u o g i a sz)) (va_Qi (xR r2) xT (xN sz)) 0 0 (xN sz) := by
  refine Met.ofW (cc := b_World_sum) (maxL := 1) (ret := (some .int)) (by decide) rfl ?_
  intro p e s m args below meth c s₁ B hml hv
  obtain ⟨rfl, hsz, hP, hK, hE⟩ := hv
  have hx := B.exec
  have hb := B.bytes
  have hr := B.returns
  have hts := atoms_spec (ws := w_World_sum) B.pre
  have htt : ∀ w ∈ tw_T, w.before _ s = true := fun w h => hts w (List.mem_cons_of_mem _ h)
  have hown : s.vm.findClass R_World = some m.cls := findClass_of_methodNamed B.named
  have hlocks := B.notSynchronized
  subst hsz
  generalize hAe : xN s.heap.size = A at hE ⊢
  have hA : ∀ q : Nat, s.heap.size ≤ q → A q := fun q h => by rw [← hAe]; exact Or.inr h
  have hS : va_S A s.heap s.heap [] := va_S.rf
  have hl := lv_entry ([.ref ((u 0))]) (n := 1) (Nat.le_of_ble_eq_true rfl)
  rw [lg_entry_eq]
  generalize (lg_sl ([.ref ((u 0))]) ++ List.replicate (1 - (lg_sl ([.ref ((u 0))])).length) Slot.unset).toArray = ls at hl ⊢
  have hl : lv_has ls 1 [(0, .ref ((u 0)))] := hl
  rw [m_World_sum] at hm
  refine lv_aload_n hx hb d_World_sum_0 rfl (lv_at hl 0 rfl) ?_
  refine va_get (D := (dC, dI)) (ci := 0) (v := .ref ((u 5))) (C := R_World) (T := F_World) (N := 13) hx hb htt iw_World hown hK hP 0 xo_0 rfl 3 (Nat.le_of_ble_eq_true rfl) (htt _ lk_World_40) (fun _ h9 => h9) xg_0_3 d_World_sum_1 ?_
  obtain ⟨r_2, h_1, hm⟩ := ob0_some hm
  have hFc := x_free0 hS hA
  refine va_calli (va_runV (As := []) (rest := []) ⟨hx, hb, hml, hown, hts⟩ (x_Turtles_sumUp l dC dI cI adK adV adA u o g s.heap.size n h_1) (cwV 0 hts (tw_GV tw_cons cw_Turtles_sumUp lk_World_248 in_Turtles_sumUp sel_Turtles_sumUp ini_Turtles) rfl rfl rfl ⟨rfl, hd_Turtles_sumUp⟩ ⟨Nat.le_of_ble_eq_true rfl, Nat.le_of_ble_eq_true rfl⟩) (xpVr hK hP hS hE hFc xo_5 rfl) rfl rfl hl.1 rfl (lv_room (Nat.le_of_ble_eq_true rfl)) d_World_sum_4 ⟨Nat.le_of_ble_eq_true rfl, Nat.le_of_ble_eq_true rfl⟩) hS (fun q _ h => hFc q h) hFc (fun r9 u9 t9 H locs ht hvm e9 hB hz1 hk1 hS => ?_)
  have e9 : r_2 = r9 := e9
  subst e9
  replace hP := x_keep hP hk1
  clear hFc hk1 hz1 hvm hB ht
  have e3 := re1 hm
  exact W.iret hx hb hr (fun t9 ht hW => ⟨⟨_, (), rfl, e3.symm, trivial⟩, hS.F ht⟩) hS.2.2 d_World_sum_7

def m_Reader_tokenEnd_b39 (n : Nat) (g : Nat → Nat) (i : Nat → Int32) (a : Nat → Nat → Int32) : Nat → Int32 → Option (Int32)
  | 0, _ => none
  | f + 1, v3 => if ((i 24)) ≤ v3 then some (i 24) else ck v3 4000 (ob1 (a 31 v3.toNatClampNeg : Int32) (fun x_3 => if x_3 ≤ ((32 : Int32)) then some v3 else if ((126 : Int32)) < x_3 then some v3 else if x_3 = ((59 : Int32)) then some v3 else if x_3 = ((45 : Int32)) then some v3 else ob0 (m_Reader_isAlone n x_3) (fun r_9 => if r_9 = ((0 : Int32)) then ob1 (v3 + 1 : Int32) (fun x_11 => m_Reader_tokenEnd_b39 n g i a f x_11) else some v3)))
set_option maxHeartbeats 4000000 in
set_option maxRecDepth 100000 in
theorem lb_Reader_tokenEnd_39 (l : Launch) (dC : Nat → ClassId) (dI : Nat → Nat → Nat) (cI : ClassId) (adK adV adA u o g : Nat → Nat) (n : Nat) {p : Program} {e : Env} {s : State} {m : MethodId} {args : Array Value} {below : List Frame} {meth : Method} {c : Code} {A : Nat → Prop} (hx : p.tables.exec = Jvm.exec) (hb : c.code = b_Reader_tokenEnd) (hml : c.maxLocals = 5) (hown : s.vm.findClass R_Reader = some m.cls) (hts : ∀ w ∈ w_Reader_tokenEnd, w.before args s = true) (hK : va_K (dC, dI) classes [(cI, .int)] s) (hE : tw_E adK adV adA A s s.heap) (hA : ∀ q : Nat, s.heap.size ≤ q → A q) (hr : meth.sig.returnType = (some .int)) (hlocks : meth.locks = false) {i : Nat → Int32} {a : Nat → Nat → Int32} {r2 : Int32} : ∀ (f : Nat) (v3 : Int32), m_Reader_tokenEnd_b39 n g i a f v3 = some r2 → ∀ (H : Heap) (locs : List Loc) (ls : Array Slot), va_P (dC, dI) classes (TW cI u o i a g) H → va_S A s.heap H locs → lv_has ls 5 [(0, .ref ((u 7))), (3, .int v3)] → W p l e ({ frames := 2, cells := 0, slots := 0, locals := 42 } : Room) s m args below meth c H locs 0 0 (MQ below (va_Qi (xR r2) xT A) args s 0 0 A) (F0 m 39 ls []) := by
  have htt : ∀ w ∈ tw_T, w.before _ s = true := fun w h => hts w (List.mem_cons_of_mem _ h)
  intro f
  induction f with
  | zero =>
    intro v3 hm
    rw [m_Reader_tokenEnd_b39] at hm
    cases hm
  | succ f ih =>
    intro v3 hm H locs ls hP hS hl
    rw [m_Reader_tokenEnd_b39] at hm
    refine lv_iload_n hx hb d_Reader_tokenEnd_39 rfl (lv_at hl 1 rfl) ?_
    refine lv_aload_n hx hb d_Reader_tokenEnd_40 rfl (lv_at hl 0 rfl) ?_
    refine va_get (D := (dC, dI)) (ci := 7) (v := .int (i 24)) (C := R_Reader) (T := F_Reader) (N := 19) hx hb htt iw_Reader hown hK hP 7 xo_7 rfl 3 (Nat.le_of_ble_eq_true rfl) (htt _ lk_Reader_38) (fun _ h9 => h9) xg_7_3 d_Reader_tokenEnd_41 ?_
    refine lv_icmp_ge (tgt := 99) hx hb d_Reader_tokenEnd_44 (by decide) (fun c_1 => ?_) (fun c_1 => ?_)
    · replace hm := if_t c_1 hm
      refine lv_aload_n hx hb d_Reader_tokenEnd_99 rfl (lv_at hl 0 rfl) ?_
      refine va_get (D := (dC, dI)) (ci := 7) (v := .int (i 24)) (C := R_Reader) (T := F_Reader) (N := 19) hx hb htt iw_Reader hown hK hP 7 xo_7 rfl 3 (Nat.le_of_ble_eq_true rfl) (htt _ lk_Reader_38) (fun _ h9 => h9) xg_7_3 d_Reader_tokenEnd_100 ?_
      have e3 := re1 hm
      exact W.iret hx hb hr (fun t9 ht hW => ⟨⟨_, (), rfl, e3.symm, trivial⟩, hS.F ht⟩) hS.2.2 d_Reader_tokenEnd_103
    · replace hm := if_f c_1 hm
      refine lv_aload_n hx hb d_Reader_tokenEnd_47 rfl (lv_at hl 0 rfl) ?_
      refine va_get (D := (dC, dI)) (ci := 7) (v := .ref ((u 41))) (C := R_Reader) (T := F_Reader) (N := 19) hx hb htt iw_Reader hown hK hP 7 xo_7 rfl 2 (Nat.le_of_ble_eq_true rfl) (htt _ lk_Reader_11) (fun _ h9 => h9) xg_7_2 d_Reader_tokenEnd_48 ?_
      refine lv_iload_n hx hb d_Reader_tokenEnd_51 rfl (lv_at hl 1 rfl) ?_
      obtain ⟨h_2, hm⟩ := ck_some hm
      refine va_iald hx hb hK hP 43 0 twA_31 rfl h_2 d_Reader_tokenEnd_52 ?_
      refine lv_topi (fun x_3 ex_3 => ?_)
      replace hm := ob1_at ex_3 hm
      refine lv_istore (lv' := [(4, .int x_3), (0, .ref ((u 7))), (3, .int v3)]) hx hb d_Reader_tokenEnd_53 hl (by decide) rfl (fun ls hl => ?_)
      refine lv_iload hx hb d_Reader_tokenEnd_55 (lv_at hl 0 rfl) ?_
      refine lv_bipush (v := 32) hx hb d_Reader_tokenEnd_57 (by decide) ?_
      refine lv_icmp_le (tgt := 91) hx hb d_Reader_tokenEnd_59 (by decide) (fun c_4 => ?_) (fun c_4 => ?_)
      · replace hm := if_t c_4 hm
        refine lv_iload_n hx hb d_Reader_tokenEnd_91 rfl (lv_at hl 2 rfl) ?_
        have e3 := re1 hm
        exact W.iret hx hb hr (fun t9 ht hW => ⟨⟨_, (), rfl, e3.symm, trivial⟩, hS.F ht⟩) hS.2.2 d_Reader_tokenEnd_92
      · replace hm := if_f c_4 hm
        refine lv_iload hx hb d_Reader_tokenEnd_62 (lv_at hl 0 rfl) ?_
        refine lv_bipush (v := 126) hx hb d_Reader_tokenEnd_64 (by decide) ?_
        refine lv_icmp_gt (tgt := 91) hx hb d_Reader_tokenEnd_66 (by decide) (fun c_5 => ?_) (fun c_5 => ?_)
        · replace hm := if_t c_5 hm
          refine lv_iload_n hx hb d_Reader_tokenEnd_91 rfl (lv_at hl 2 rfl) ?_
          have e3 := re1 hm
          exact W.iret hx hb hr (fun t9 ht hW => ⟨⟨_, (), rfl, e3.symm, trivial⟩, hS.F ht⟩) hS.2.2 d_Reader_tokenEnd_92
        · replace hm := if_f c_5 hm
          refine lv_iload hx hb d_Reader_tokenEnd_69 (lv_at hl 0 rfl) ?_
          refine lv_bipush (v := 59) hx hb d_Reader_tokenEnd_71 (by decide) ?_
          refine lv_icmp_eq (tgt := 91) hx hb d_Reader_tokenEnd_73 (by decide) (fun c_6 => ?_) (fun c_6 => ?_)
          · replace hm := if_t c_6 hm
            refine lv_iload_n hx hb d_Reader_tokenEnd_91 rfl (lv_at hl 2 rfl) ?_
            have e3 := re1 hm
            exact W.iret hx hb hr (fun t9 ht hW => ⟨⟨_, (), rfl, e3.symm, trivial⟩, hS.F ht⟩) hS.2.2 d_Reader_tokenEnd_92
          · replace hm := if_f c_6 hm
            refine lv_iload hx hb d_Reader_tokenEnd_76 (lv_at hl 0 rfl) ?_
            refine lv_bipush (v := 45) hx hb d_Reader_tokenEnd_78 (by decide) ?_
            refine lv_icmp_eq (tgt := 91) hx hb d_Reader_tokenEnd_80 (by decide) (fun c_7 => ?_) (fun c_7 => ?_)
            · replace hm := if_t c_7 hm
              refine lv_iload_n hx hb d_Reader_tokenEnd_91 rfl (lv_at hl 2 rfl) ?_
              have e3 := re1 hm
              exact W.iret hx hb hr (fun t9 ht hW => ⟨⟨_, (), rfl, e3.symm, trivial⟩, hS.F ht⟩) hS.2.2 d_Reader_tokenEnd_92
            · replace hm := if_f c_7 hm
              refine lv_iload hx hb d_Reader_tokenEnd_83 (lv_at hl 0 rfl) ?_
              obtain ⟨r_9, h_8, hm⟩ := ob0_some hm
              have hFc := x_free0 hS hA
              refine va_calli (va_runS (As := [.int x_3]) (rest := []) ⟨hx, hb, hml, hown, hts⟩ (x_Reader_isAlone l H.size n h_8) (va_cwS 1 hts (tw_GS tw_cons cw_Reader_isAlone lk_Reader_100 st_Reader_isAlone ini_Reader) rfl rfl rfl hd_Reader_isAlone ⟨Nat.le_of_ble_eq_true rfl, Nat.le_of_ble_eq_true rfl⟩) xpS0 rfl rfl hl.1 rfl (lv_room (Nat.le_of_ble_eq_true rfl)) d_Reader_tokenEnd_85 ⟨Nat.le_of_ble_eq_true rfl, Nat.le_of_ble_eq_true rfl⟩) hS (fun q _ h => hFc q h) hFc (fun r9 u9 t9 H locs ht hvm e9 hB hz1 hk1 hS => ?_)
              have e9 : r_9 = r9 := e9
              subst e9
              replace hP := x_keep hP hk1
              clear hFc hk1 hz1 hvm hB ht
              refine lv_if_eq (tgt := 93) hx hb d_Reader_tokenEnd_88 (by decide) (fun c_10 => ?_) (fun c_10 => ?_)
              · replace hm := if_t c_10 hm
                obtain ⟨x_11, ex_11⟩ : ∃ y9 : Int32, y9 = v3 + 1 := ⟨_, rfl⟩
                replace hm := ob1_at ex_11 hm
                refine lv_iinc (v := x_11) (lv' := [(3, .int x_11), (4, .int x_3), (0, .ref ((u 7)))]) hx hb d_Reader_tokenEnd_93 hl (k := 2) rfl (by rw [ex_11]; rfl) (by decide) rfl (fun ls hl => ?_)
                refine lv_goto (tgt := 39) hx hb d_Reader_tokenEnd_96 (by decide) ?_
                exact ih _ hm _ _ _ hP hS (lv_sub hl [2, 0] rfl)
              · replace hm := if_f c_10 hm
                refine lv_iload_n hx hb d_Reader_tokenEnd_91 rfl (lv_at hl 2 rfl) ?_
                have e3 := re1 hm
                exact W.iret hx hb hr (fun t9 ht hW => ⟨⟨_, (), rfl, e3.symm, trivial⟩, hS.F ht⟩) hS.2.2 d_Reader_tokenEnd_92
def m_Reader_tokenEnd_b37 (n : Nat) (g : Nat → Nat) (i : Nat → Int32) (a : Nat → Nat → Int32) (v2 : Int32) : Option (Int32) := m_Reader_tokenEnd_b39 n g i a n v2
set_option maxHeartbeats 4000000 in
set_option maxRecDepth 100000 in
theorem lb_Reader_tokenEnd_37 (l : Launch) (dC : Nat → ClassId) (dI : Nat → Nat → Nat) (cI : ClassId) (adK adV adA u o g : Nat → Nat) (n : Nat) {p : Program} {e : Env} {s : State} {m : MethodId} {args : Array Value} {below : List Frame} {meth : Method} {c : Code} {A : Nat → Prop} (hx : p.tables.exec = Jvm.exec) (hb : c.code = b_Reader_tokenEnd) (hml : c.maxLocals = 5) (hown : s.vm.findClass R_Reader = some m.cls) (hts : ∀ w ∈ w_Reader_tokenEnd, w.before args s = true) (hK : va_K (dC, dI) classes [(cI, .int)] s) (hE : tw_E adK adV adA A s s.heap) (hA : ∀ q : Nat, s.heap.size ≤ q → A q) (hr : meth.sig.returnType = (some .int)) (hlocks : meth.locks = false) {i : Nat → Int32} {a : Nat → Nat → Int32} {r2 : Int32} (v2 : Int32) (hm : m_Reader_tokenEnd_b37 n g i a v2 = some r2) : ∀ (H : Heap) (locs : List Loc) (ls : Array Slot), va_P (dC, dI) classes (TW cI u o i a g) H → va_S A s.heap H locs → lv_has ls 5 [(0, .ref ((u 7))), (2, .int v2)] → W p l e ({ frames := 2, cells := 0, slots := 0, locals := 42 } : Room) s m args below meth c H locs 0 0 (MQ below (va_Qi (xR r2) xT A) args s 0 0 A) (F0 m 37 ls []) := by
  have htt : ∀ w ∈ tw_T, w.before _ s = true := fun w h => hts w (List.mem_cons_of_mem _ h)
  intro H locs ls hP hS hl
  rw [m_Reader_tokenEnd_b37] at hm
  refine lv_iload_n hx hb d_Reader_tokenEnd_37 rfl (lv_at hl 1 rfl) ?_
  refine lv_istore_n (lv' := [(3, .int v2), (0, .ref ((u 7))), (2, .int v2)]) hx hb d_Reader_tokenEnd_38 rfl hl (by decide) rfl (fun ls hl => ?_)
  exact lb_Reader_tokenEnd_39 l dC dI cI adK adV adA u o g n hx hb hml hown hts hK hE hA hr hlocks n _ hm _ _ _ hP hS (lv_sub hl [1, 0] rfl)
def m_Reader_tokenEnd (n : Nat) (g : Nat → Nat) (i : Nat → Int32) (a : Nat → Nat → Int32) (v1 : Int32) : Option (Int32) := ob1 (v1 + 1 : Int32) (fun x_1 => ck v1 4000 (ob0 (m_Reader_isAlone n (a 31 v1.toNatClampNeg)) (fun r_4 => if r_4 = ((0 : Int32)) then ck v1 4000 (if ((a 31 v1.toNatClampNeg)) = ((45 : Int32)) then ob0 (m_Reader_beginsNumber n g i a v1) (fun r_9 => if r_9 = ((0 : Int32)) then some x_1 else m_Reader_tokenEnd_b37 n g i a x_1) else m_Reader_tokenEnd_b37 n g i a x_1) else some x_1)))
set_option maxHeartbeats 4000000 in
set_option maxRecDepth 100000 in
theorem x_Reader_tokenEnd (l : Launch) (dC : Nat → ClassId) (dI : Nat → Nat → Nat) (cI : ClassId) (adK adV adA u o g : Nat → Nat) (sz : Nat) (n : Nat) {i : Nat → Int32} {a : Nat → Nat → Int32} {v1 : Int32} {r2 : Int32} (hm : m_Reader_tokenEnd n g i a v1 = some r2) : Met l y_Reader_tokenEnd w_Reader_tokenEnd ({ frames := 2, cells := 0, slots := 0, locals := 42 } : Room) (va_Pc [.ref ((u 7)), .int v1] (xEr dC dI cI adK adV adA u o g i a sz)) (va_Qi (xR r2) xT (xN sz)) 0 0 (xN sz) := by
  refine Met.ofW (cc := b_Reader_tokenEnd) (maxL := 5) (ret := (some .int)) (by decide) rfl ?_
  intro p e s m args below meth c s₁ B hml hv
  obtain ⟨rfl, hsz, hP, hK, hE⟩ := hv
  have hx := B.exec
  have hb := B.bytes
  have hr := B.returns
  have hts := atoms_spec (ws := w_Reader_tokenEnd) B.pre
  have htt : ∀ w ∈ tw_T, w.before _ s = true := fun w h => hts w (List.mem_cons_of_mem _ h)
  have hown : s.vm.findClass R_Reader = some m.cls := findClass_of_methodNamed B.named
  have hlocks := B.notSynchronized
  subst hsz
  generalize hAe : xN s.heap.size = A at hE ⊢
  have hA : ∀ q : Nat, s.heap.size ≤ q → A q := fun q h => by rw [← hAe]; exact Or.inr h
  have hS : va_S A s.heap s.heap [] := va_S.rf
  have hl := lv_entry ([.ref ((u 7)), .int v1]) (n := 5) (Nat.le_of_ble_eq_true rfl)
  rw [lg_entry_eq]
  generalize (lg_sl ([.ref ((u 7)), .int v1]) ++ List.replicate (5 - (lg_sl ([.ref ((u 7)), .int v1])).length) Slot.unset).toArray = ls at hl ⊢
  have hl : lv_has ls 5 [(0, .ref ((u 7))), (1, .int v1)] := hl
  rw [m_Reader_tokenEnd] at hm
  refine lv_iload_n hx hb d_Reader_tokenEnd_0 rfl (lv_at hl 1 rfl) ?_
  refine lv_iconst (v := 1) hx hb d_Reader_tokenEnd_1 (by decide) ?_
  refine lv_iadd hx hb d_Reader_tokenEnd_2 ?_
  refine lv_topi (fun x_1 ex_1 => ?_)
  replace hm := ob1_at ex_1 hm
  refine lv_istore_n (lv' := [(2, .int x_1), (0, .ref ((u 7))), (1, .int v1)]) hx hb d_Reader_tokenEnd_3 rfl hl (by decide) rfl (fun ls hl => ?_)
  refine lv_aload_n hx hb d_Reader_tokenEnd_4 rfl (lv_at hl 1 rfl) ?_
  refine va_get (D := (dC, dI)) (ci := 7) (v := .ref ((u 41))) (C := R_Reader) (T := F_Reader) (N := 19) hx hb htt iw_Reader hown hK hP 7 xo_7 rfl 2 (Nat.le_of_ble_eq_true rfl) (htt _ lk_Reader_11) (fun _ h9 => h9) xg_7_2 d_Reader_tokenEnd_5 ?_
  refine lv_iload_n hx hb d_Reader_tokenEnd_8 rfl (lv_at hl 2 rfl) ?_
  obtain ⟨h_2, hm⟩ := ck_some hm
  refine va_iald hx hb hK hP 43 0 twA_31 rfl h_2 d_Reader_tokenEnd_9 ?_
  obtain ⟨r_4, h_3, hm⟩ := ob0_some hm
  have hFc := x_free0 hS hA
  refine va_calli (va_runS (As := [.int (a 31 v1.toNatClampNeg)]) (rest := []) ⟨hx, hb, hml, hown, hts⟩ (x_Reader_isAlone l s.heap.size n h_3) (va_cwS 1 hts (tw_GS tw_cons cw_Reader_isAlone lk_Reader_100 st_Reader_isAlone ini_Reader) rfl rfl rfl hd_Reader_isAlone ⟨Nat.le_of_ble_eq_true rfl, Nat.le_of_ble_eq_true rfl⟩) xpS0 rfl rfl hl.1 rfl (lv_room (Nat.le_of_ble_eq_true rfl)) d_Reader_tokenEnd_10 ⟨Nat.le_of_ble_eq_true rfl, Nat.le_of_ble_eq_true rfl⟩) hS (fun q _ h => hFc q h) hFc (fun r9 u9 t9 H locs ht hvm e9 hB hz1 hk1 hS => ?_)
  have e9 : r_4 = r9 := e9
  subst e9
  replace hP := x_keep hP hk1
  clear hFc hk1 hz1 hvm hB ht
  refine lv_if_ne (tgt := 35) hx hb d_Reader_tokenEnd_13 (by decide) (fun c_5 => ?_) (fun c_5 => ?_)
  · replace hm := if_f c_5 hm
    refine lv_iload_n hx hb d_Reader_tokenEnd_35 rfl (lv_at hl 0 rfl) ?_
    have e3 := re1 hm
    exact W.iret hx hb hr (fun t9 ht hW => ⟨⟨_, (), rfl, e3.symm, trivial⟩, hS.F ht⟩) hS.2.2 d_Reader_tokenEnd_36
  · replace hm := if_t c_5 hm
    refine lv_aload_n hx hb d_Reader_tokenEnd_16 rfl (lv_at hl 1 rfl) ?_
    refine va_get (D := (dC, dI)) (ci := 7) (v := .ref ((u 41))) (C := R_Reader) (T := F_Reader) (N := 19) hx hb htt iw_Reader hown hK hP 7 xo_7 rfl 2 (Nat.le_of_ble_eq_true rfl) (htt _ lk_Reader_11) (fun _ h9 => h9) xg_7_2 d_Reader_tokenEnd_17 ?_
    refine lv_iload_n hx hb d_Reader_tokenEnd_20 rfl (lv_at hl 2 rfl) ?_
    obtain ⟨h_6, hm⟩ := ck_some hm
    refine va_iald hx hb hK hP 43 0 twA_31 rfl h_6 d_Reader_tokenEnd_21 ?_
    refine lv_bipush (v := 45) hx hb d_Reader_tokenEnd_22 (by decide) ?_
    refine lv_icmp_ne (tgt := 37) hx hb d_Reader_tokenEnd_24 (by decide) (fun c_7 => ?_) (fun c_7 => ?_)
    · replace hm := if_f c_7 hm
      exact lb_Reader_tokenEnd_37 l dC dI cI adK adV adA u o g n hx hb hml hown hts hK hE hA hr hlocks _ hm _ _ _ hP hS (lv_sub hl [1, 0] rfl)
    · replace hm := if_t c_7 hm
      refine lv_aload_n hx hb d_Reader_tokenEnd_27 rfl (lv_at hl 1 rfl) ?_
      refine lv_iload_n hx hb d_Reader_tokenEnd_28 rfl (lv_at hl 2 rfl) ?_
      obtain ⟨r_9, h_8, hm⟩ := ob0_some hm
      have hFc := x_free0 hS hA
      refine va_calli (va_runV (As := [.int v1]) (rest := []) ⟨hx, hb, hml, hown, hts⟩ (x_Reader_beginsNumber l dC dI cI adK adV adA u o g H.size n h_8) (cwV 1 hts (tw_GV tw_cons cw_Reader_beginsNumber lk_Reader_103 in_Reader_beginsNumber sel_Reader_beginsNumber ini_Reader) rfl rfl rfl ⟨rfl, hd_Reader_beginsNumber⟩ ⟨Nat.le_of_ble_eq_true rfl, Nat.le_of_ble_eq_true rfl⟩) (xpVr hK hP hS hE hFc xo_7 rfl) rfl rfl hl.1 rfl (lv_room (Nat.le_of_ble_eq_true rfl)) d_Reader_tokenEnd_29 ⟨Nat.le_of_ble_eq_true rfl, Nat.le_of_ble_eq_true rfl⟩) hS (fun q _ h => hFc q h) hFc (fun r9 u9 t9 H locs ht hvm e9 hB hz1 hk1 hS => ?_)
      have e9 : r_9 = r9 := e9
      subst e9
      replace hP := x_keep hP hk1
      clear hFc hk1 hz1 hvm hB ht
      refine lv_if_ne (tgt := 37) hx hb d_Reader_tokenEnd_32 (by decide) (fun c_10 => ?_) (fun c_10 => ?_)
      · replace hm := if_f c_10 hm
        exact lb_Reader_tokenEnd_37 l dC dI cI adK adV adA u o g n hx hb hml hown hts hK hE hA hr hlocks _ hm _ _ _ hP hS (lv_sub hl [1, 0] rfl)
      · replace hm := if_t c_10 hm
        refine lv_iload_n hx hb d_Reader_tokenEnd_35 rfl (lv_at hl 0 rfl) ?_
        have e3 := re1 hm
        exact W.iret hx hb hr (fun t9 ht hW => ⟨⟨_, (), rfl, e3.symm, trivial⟩, hS.F ht⟩) hS.2.2 d_Reader_tokenEnd_36

def m_Lexicon_hashOf_a0_b8 (n : Nat) (g : Nat → Nat) (i : Nat → Int32) (a : Nat → Nat → Int32) : Nat → Int32 → Int32 → Option (Int32)
  | 0, _, _ => none
  | f + 1, v2, v3 => if ((nI (g 0))) ≤ v3 then some v2 else ck v3 (g 0) (if ((a 0 v3.toNatClampNeg)) = ((0 : Int32)) then some v2 else ck v3 (g 0) (ob1 ((31 * v2) + (a 0 v3.toNatClampNeg) : Int32) (fun x_5 => ob1 (v3 + 1 : Int32) (fun x_6 => m_Lexicon_hashOf_a0_b8 n g i a f x_5 x_6))))
set_option maxHeartbeats 4000000 in
set_option maxRecDepth 100000 in
theorem lb_Lexicon_hashOf_a0_8 (l : Launch) (dC : Nat → ClassId) (dI : Nat → Nat → Nat) (cI : ClassId) (adK adV adA u o g : Nat → Nat) (n : Nat) {p : Program} {e : Env} {s : State} {m : MethodId} {args : Array Value} {below : List Frame} {meth : Method} {c : Code} {A : Nat → Prop} (hx : p.tables.exec = Jvm.exec) (hb : c.code = b_Lexicon_hashOf) (hml : c.maxLocals = 4) (hown : s.vm.findClass R_Lexicon = some m.cls) (hts : ∀ w ∈ w_Lexicon_hashOf, w.before args s = true) (hK : va_K (dC, dI) classes [(cI, .int)] s) (hE : tw_E adK adV adA A s s.heap) (hA : ∀ q : Nat, s.heap.size ≤ q → A q) (hr : meth.sig.returnType = (some .int)) (hlocks : meth.locks = false) {i : Nat → Int32} {a : Nat → Nat → Int32} {r2 : Int32} : ∀ (f : Nat) (v2 : Int32) (v3 : Int32), m_Lexicon_hashOf_a0_b8 n g i a f v2 v3 = some r2 → ∀ (H : Heap) (locs : List Loc) (ls : Array Slot), va_P (dC, dI) classes (TW cI u o i a g) H → va_S A s.heap H locs → lv_has ls 4 [(0, .ref ((o 0))), (2, .int v2), (3, .int v3)] → W p l e ({ frames := 1, cells := 0, slots := 0, locals := 21 } : Room) s m args below meth c H locs 0 0 (MQ below (va_Qi (xR r2) xT A) args s 0 0 A) (F0 m 8 ls []) := by
  have htt : ∀ w ∈ tw_T, w.before _ s = true := fun w h => hts w (List.mem_cons_of_mem _ h)
  intro f
  induction f with
  | zero =>
    intro v2 v3 hm
    rw [m_Lexicon_hashOf_a0_b8] at hm
    cases hm
  | succ f ih =>
    intro v2 v3 hm H locs ls hP hS hl
    rw [m_Lexicon_hashOf_a0_b8] at hm
    refine lv_iload_n hx hb d_Lexicon_hashOf_8 rfl (lv_at hl 2 rfl) ?_
    refine lv_aload_n hx hb d_Lexicon_hashOf_9 rfl (lv_at hl 0 rfl) ?_
    refine va_alen (v := nI (g 0)) hx hb hK hP 12 0 twA_0 rfl rfl d_Lexicon_hashOf_10 ?_
    refine lv_icmp_ge (tgt := 35) hx hb d_Lexicon_hashOf_11 (by decide) (fun c_1 => ?_) (fun c_1 => ?_)
    · replace hm := if_t c_1 hm
      refine lv_iload_n hx hb d_Lexicon_hashOf_35 rfl (lv_at hl 1 rfl) ?_
      have e3 := re1 hm
      exact W.iret hx hb hr (fun t9 ht hW => ⟨⟨_, (), rfl, e3.symm, trivial⟩, hS.F ht⟩) hS.2.2 d_Lexicon_hashOf_36
    · replace hm := if_f c_1 hm
      refine lv_aload_n hx hb d_Lexicon_hashOf_14 rfl (lv_at hl 0 rfl) ?_
      refine lv_iload_n hx hb d_Lexicon_hashOf_15 rfl (lv_at hl 2 rfl) ?_
      obtain ⟨h_2, hm⟩ := ck_some hm
      refine va_iald hx hb hK hP 12 0 twA_0 rfl h_2 d_Lexicon_hashOf_16 ?_
      refine lv_if_eq (tgt := 35) hx hb d_Lexicon_hashOf_17 (by decide) (fun c_3 => ?_) (fun c_3 => ?_)
      · replace hm := if_t c_3 hm
        refine lv_iload_n hx hb d_Lexicon_hashOf_35 rfl (lv_at hl 1 rfl) ?_
        have e3 := re1 hm
        exact W.iret hx hb hr (fun t9 ht hW => ⟨⟨_, (), rfl, e3.symm, trivial⟩, hS.F ht⟩) hS.2.2 d_Lexicon_hashOf_36
      · replace hm := if_f c_3 hm
        refine lv_bipush (v := 31) hx hb d_Lexicon_hashOf_20 (by decide) ?_
        refine lv_iload_n hx hb d_Lexicon_hashOf_22 rfl (lv_at hl 1 rfl) ?_
        refine lv_imul hx hb d_Lexicon_hashOf_23 ?_
        refine lv_aload_n hx hb d_Lexicon_hashOf_24 rfl (lv_at hl 0 rfl) ?_
        refine lv_iload_n hx hb d_Lexicon_hashOf_25 rfl (lv_at hl 2 rfl) ?_
        obtain ⟨h_4, hm⟩ := ck_some hm
        refine va_iald hx hb hK hP 12 0 twA_0 rfl h_4 d_Lexicon_hashOf_26 ?_
        refine lv_iadd hx hb d_Lexicon_hashOf_27 ?_
        refine lv_topi (fun x_5 ex_5 => ?_)
        replace hm := ob1_at ex_5 hm
        refine lv_istore_n (lv' := [(2, .int x_5), (0, .ref ((o 0))), (3, .int v3)]) hx hb d_Lexicon_hashOf_28 rfl hl (by decide) rfl (fun ls hl => ?_)
        obtain ⟨x_6, ex_6⟩ : ∃ y9 : Int32, y9 = v3 + 1 := ⟨_, rfl⟩
        replace hm := ob1_at ex_6 hm
        refine lv_iinc (v := x_6) (lv' := [(3, .int x_6), (2, .int x_5), (0, .ref ((o 0)))]) hx hb d_Lexicon_hashOf_29 hl (k := 2) rfl (by rw [ex_6]; rfl) (by decide) rfl (fun ls hl => ?_)
        refine lv_goto (tgt := 8) hx hb d_Lexicon_hashOf_32 (by decide) ?_
        exact ih _ _ hm _ _ _ hP hS (lv_sub hl [2, 1, 0] rfl)
def m_Lexicon_hashOf_a0 (n : Nat) (g : Nat → Nat) (i : Nat → Int32) (a : Nat → Nat → Int32) (v1 : Int32) : Option (Int32) := ob0 (m_Math_max n v1 (0 : Int32)) (fun r_2 => m_Lexicon_hashOf_a0_b8 n g i a n (0 : Int32) r_2)
set_option maxHeartbeats 4000000 in
set_option maxRecDepth 100000 in
theorem x_Lexicon_hashOf_a0 (l : Launch) (dC : Nat → ClassId) (dI : Nat → Nat → Nat) (cI : ClassId) (adK adV adA u o g : Nat → Nat) (sz : Nat) (n : Nat) {i : Nat → Int32} {a : Nat → Nat → Int32} {v1 : Int32} {r2 : Int32} (hm : m_Lexicon_hashOf_a0 n g i a v1 = some r2) : Met l y_Lexicon_hashOf w_Lexicon_hashOf ({ frames := 1, cells := 0, slots := 0, locals := 21 } : Room) (va_Pc [.ref ((o 0)), .int v1] (xEr dC dI cI adK adV adA u o g i a sz)) (va_Qi (xR r2) xT (xN sz)) 0 0 (xN sz) := by
  refine Met.ofW (cc := b_Lexicon_hashOf) (maxL := 4) (ret := (some .int)) (by decide) rfl ?_
  intro p e s m args below meth c s₁ B hml hv
  obtain ⟨rfl, hsz, hP, hK, hE⟩ := hv
  have hx := B.exec
  have hb := B.bytes
  have hr := B.returns
  have hts := atoms_spec (ws := w_Lexicon_hashOf) B.pre
  have htt : ∀ w ∈ tw_T, w.before _ s = true := fun w h => hts w (List.mem_cons_of_mem _ h)
  have hown : s.vm.findClass R_Lexicon = some m.cls := findClass_of_methodNamed B.named
  have hlocks := B.notSynchronized
  subst hsz
  generalize hAe : xN s.heap.size = A at hE ⊢
  have hA : ∀ q : Nat, s.heap.size ≤ q → A q := fun q h => by rw [← hAe]; exact Or.inr h
  have hS : va_S A s.heap s.heap [] := va_S.rf
  have hl := lv_entry ([.ref ((o 0)), .int v1]) (n := 4) (Nat.le_of_ble_eq_true rfl)
  rw [lg_entry_eq]
  generalize (lg_sl ([.ref ((o 0)), .int v1]) ++ List.replicate (4 - (lg_sl ([.ref ((o 0)), .int v1])).length) Slot.unset).toArray = ls at hl ⊢
  have hl : lv_has ls 4 [(0, .ref ((o 0))), (1, .int v1)] := hl
  rw [m_Lexicon_hashOf_a0] at hm
  refine lv_iconst (v := 0) hx hb d_Lexicon_hashOf_0 (by decide) ?_
  refine lv_istore_n (lv' := [(2, .int 0), (0, .ref ((o 0))), (1, .int v1)]) hx hb d_Lexicon_hashOf_1 rfl hl (by decide) rfl (fun ls hl => ?_)
  refine lv_iload_n hx hb d_Lexicon_hashOf_2 rfl (lv_at hl 2 rfl) ?_
  refine lv_iconst (v := 0) hx hb d_Lexicon_hashOf_3 (by decide) ?_
  obtain ⟨r_2, h_1, hm⟩ := ob0_some hm
  have hFc := x_free0 hS hA
  refine va_calli (va_runS (As := [.int v1, .int 0]) (rest := []) ⟨hx, hb, hml, hown, hts⟩ (x_Math_max l s.heap.size n h_1) (va_cwS 2 hts (tw_GS tw_cons cw_Math_max lk_Lexicon_77 st_Math_max ini_Math) rfl rfl rfl hd_Math_max ⟨Nat.le_of_ble_eq_true rfl, Nat.le_of_ble_eq_true rfl⟩) xpS0 rfl rfl hl.1 rfl (lv_room (Nat.le_of_ble_eq_true rfl)) d_Lexicon_hashOf_4 ⟨Nat.le_of_ble_eq_true rfl, Nat.le_of_ble_eq_true rfl⟩) hS (fun q _ h => hFc q h) hFc (fun r9 u9 t9 H locs ht hvm e9 hB hz1 hk1 hS => ?_)
  have e9 : r_2 = r9 := e9
  subst e9
  replace hP := x_keep hP hk1
  clear hFc hk1 hz1 hvm hB ht
  refine lv_istore_n (lv' := [(3, .int r_2), (2, .int 0), (0, .ref ((o 0))), (1, .int v1)]) hx hb d_Lexicon_hashOf_7 rfl hl (by decide) rfl (fun ls hl => ?_)
  exact lb_Lexicon_hashOf_a0_8 l dC dI cI adK adV adA u o g n hx hb hml hown hts hK hE hA hr hlocks n _ _ hm _ _ _ hP hS (lv_sub hl [2, 1, 0] rfl)

def m_Lexicon_isAt_a0_b11 (n : Nat) (g : Nat → Nat) (i : Nat → Int32) (a : Nat → Nat → Int32) : Nat → Int32 → Int32 → Int32 → Option (Int32)
  | 0, _, _, _ => none
  | f + 1, v3, v4, v5 => if ((600 : Int32)) ≤ ((v4 + v5)) then some 0 else if ((nI (g 0))) ≤ ((v3 + v5)) then some 0 else ck ((v4 + v5)) 600 (ck ((v3 + v5)) (g 0) (if ((a 5 (v4 + v5).toNatClampNeg)) = ((a 0 (v3 + v5).toNatClampNeg)) then ck ((v4 + v5)) 600 (if ((a 5 (v4 + v5).toNatClampNeg)) = ((0 : Int32)) then some 1 else ob1 (v5 + 1 : Int32) (fun x_8 => m_Lexicon_isAt_a0_b11 n g i a f v3 v4 x_8)) else some 0))
set_option maxHeartbeats 4000000 in
set_option maxRecDepth 100000 in
theorem lb_Lexicon_isAt_a0_11 (l : Launch) (dC : Nat → ClassId) (dI : Nat → Nat → Nat) (cI : ClassId) (adK adV adA u o g : Nat → Nat) (n : Nat) {p : Program} {e : Env} {s : State} {m : MethodId} {args : Array Value} {below : List Frame} {meth : Method} {c : Code} {A : Nat → Prop} (hx : p.tables.exec = Jvm.exec) (hb : c.code = b_Lexicon_isAt) (hml : c.maxLocals = 6) (hown : s.vm.findClass R_Lexicon = some m.cls) (hts : ∀ w ∈ w_Lexicon_isAt, w.before args s = true) (hK : va_K (dC, dI) classes [(cI, .int)] s) (hE : tw_E adK adV adA A s s.heap) (hA : ∀ q : Nat, s.heap.size ≤ q → A q) (hr : meth.sig.returnType = (some .boolean)) (hlocks : meth.locks = false) {i : Nat → Int32} {a : Nat → Nat → Int32} {r2 : Int32} : ∀ (f : Nat) (v3 : Int32) (v4 : Int32) (v5 : Int32), m_Lexicon_isAt_a0_b11 n g i a f v3 v4 v5 = some r2 → ∀ (H : Heap) (locs : List Loc) (ls : Array Slot), va_P (dC, dI) classes (TW cI u o i a g) H → va_S A s.heap H locs → lv_has ls 6 [(0, .ref ((u 2))), (2, .ref ((o 0))), (3, .int v3), (4, .int v4), (5, .int v5)] → W p l e ({ frames := 0, cells := 0, slots := 0, locals := 0 } : Room) s m args below meth c H locs 0 0 (MQ below (va_Qi (xR r2) xT A) args s 0 0 A) (F0 m 11 ls []) := by
  have htt : ∀ w ∈ tw_T, w.before _ s = true := fun w h => hts w (List.mem_cons_of_mem _ h)
  intro f
  induction f with
  | zero =>
    intro v3 v4 v5 hm
    rw [m_Lexicon_isAt_a0_b11] at hm
    cases hm
  | succ f ih =>
    intro v3 v4 v5 hm H locs ls hP hS hl
    rw [m_Lexicon_isAt_a0_b11] at hm
    refine lv_iload hx hb d_Lexicon_isAt_11 (lv_at hl 3 rfl) ?_
    refine lv_iload hx hb d_Lexicon_isAt_13 (lv_at hl 4 rfl) ?_
    refine lv_iadd hx hb d_Lexicon_isAt_15 ?_
    refine lv_sipush (v := 600) hx hb d_Lexicon_isAt_16 (by decide) ?_
    refine lv_icmp_ge (tgt := 73) hx hb d_Lexicon_isAt_19 (by decide) (fun c_1 => ?_) (fun c_1 => ?_)
    · replace hm := if_t c_1 hm
      refine lv_iconst (v := 0) hx hb d_Lexicon_isAt_73 (by decide) ?_
      have e3 := re1 hm
      exact W.zret hx hb hr (by decide) (fun t9 ht hW => ⟨⟨_, (), rfl, e3.symm, trivial⟩, hS.F ht⟩) hS.2.2 d_Lexicon_isAt_74
    · replace hm := if_f c_1 hm
      refine lv_iload_n hx hb d_Lexicon_isAt_22 rfl (lv_at hl 2 rfl) ?_
      refine lv_iload hx hb d_Lexicon_isAt_23 (lv_at hl 4 rfl) ?_
      refine lv_iadd hx hb d_Lexicon_isAt_25 ?_
      refine lv_aload_n hx hb d_Lexicon_isAt_26 rfl (lv_at hl 1 rfl) ?_
      refine va_alen (v := nI (g 0)) hx hb hK hP 12 0 twA_0 rfl rfl d_Lexicon_isAt_27 ?_
      refine lv_icmp_ge (tgt := 73) hx hb d_Lexicon_isAt_28 (by decide) (fun c_2 => ?_) (fun c_2 => ?_)
      · replace hm := if_t c_2 hm
        refine lv_iconst (v := 0) hx hb d_Lexicon_isAt_73 (by decide) ?_
        have e3 := re1 hm
        exact W.zret hx hb hr (by decide) (fun t9 ht hW => ⟨⟨_, (), rfl, e3.symm, trivial⟩, hS.F ht⟩) hS.2.2 d_Lexicon_isAt_74
      · replace hm := if_f c_2 hm
        refine lv_aload_n hx hb d_Lexicon_isAt_31 rfl (lv_at hl 0 rfl) ?_
        refine va_get (D := (dC, dI)) (ci := 2) (v := .ref ((u 15))) (C := R_Lexicon) (T := F_Lexicon) (N := 7) hx hb htt iw_Lexicon hown hK hP 2 xo_2 rfl 0 (Nat.le_of_ble_eq_true rfl) (htt _ lk_Lexicon_11) (fun _ h9 => h9) xg_2_0 d_Lexicon_isAt_32 ?_
        refine lv_iload hx hb d_Lexicon_isAt_35 (lv_at hl 3 rfl) ?_
        refine lv_iload hx hb d_Lexicon_isAt_37 (lv_at hl 4 rfl) ?_
        refine lv_iadd hx hb d_Lexicon_isAt_39 ?_
        obtain ⟨h_3, hm⟩ := ck_some hm
        refine va_iald hx hb hK hP 17 0 twA_5 rfl h_3 d_Lexicon_isAt_40 ?_
        refine lv_aload_n hx hb d_Lexicon_isAt_41 rfl (lv_at hl 1 rfl) ?_
        refine lv_iload_n hx hb d_Lexicon_isAt_42 rfl (lv_at hl 2 rfl) ?_
        refine lv_iload hx hb d_Lexicon_isAt_43 (lv_at hl 4 rfl) ?_
        refine lv_iadd hx hb d_Lexicon_isAt_45 ?_
        obtain ⟨h_4, hm⟩ := ck_some hm
        refine va_iald hx hb hK hP 12 0 twA_0 rfl h_4 d_Lexicon_isAt_46 ?_
        refine lv_icmp_eq (tgt := 52) hx hb d_Lexicon_isAt_47 (by decide) (fun c_5 => ?_) (fun c_5 => ?_)
        · replace hm := if_t c_5 hm
          refine lv_aload_n hx hb d_Lexicon_isAt_52 rfl (lv_at hl 0 rfl) ?_
          refine va_get (D := (dC, dI)) (ci := 2) (v := .ref ((u 15))) (C := R_Lexicon) (T := F_Lexicon) (N := 7) hx hb htt iw_Lexicon hown hK hP 2 xo_2 rfl 0 (Nat.le_of_ble_eq_true rfl) (htt _ lk_Lexicon_11) (fun _ h9 => h9) xg_2_0 d_Lexicon_isAt_53 ?_
          refine lv_iload hx hb d_Lexicon_isAt_56 (lv_at hl 3 rfl) ?_
          refine lv_iload hx hb d_Lexicon_isAt_58 (lv_at hl 4 rfl) ?_
          refine lv_iadd hx hb d_Lexicon_isAt_60 ?_
          obtain ⟨h_6, hm⟩ := ck_some hm
          refine va_iald hx hb hK hP 17 0 twA_5 rfl h_6 d_Lexicon_isAt_61 ?_
          refine lv_if_ne (tgt := 67) hx hb d_Lexicon_isAt_62 (by decide) (fun c_7 => ?_) (fun c_7 => ?_)
          · replace hm := if_f c_7 hm
            obtain ⟨x_8, ex_8⟩ : ∃ y9 : Int32, y9 = v5 + 1 := ⟨_, rfl⟩
            replace hm := ob1_at ex_8 hm
            refine lv_iinc (v := x_8) (lv' := [(5, .int x_8), (0, .ref ((u 2))), (2, .ref ((o 0))), (3, .int v3), (4, .int v4)]) hx hb d_Lexicon_isAt_67 hl (k := 4) rfl (by rw [ex_8]; rfl) (by decide) rfl (fun ls hl => ?_)
            refine lv_goto (tgt := 11) hx hb d_Lexicon_isAt_70 (by decide) ?_
            exact ih _ _ _ hm _ _ _ hP hS (lv_sub hl [1, 2, 3, 4, 0] rfl)
          · replace hm := if_t c_7 hm
            refine lv_iconst (v := 1) hx hb d_Lexicon_isAt_65 (by decide) ?_
            have e3 := re1 hm
            exact W.zret hx hb hr (by decide) (fun t9 ht hW => ⟨⟨_, (), rfl, e3.symm, trivial⟩, hS.F ht⟩) hS.2.2 d_Lexicon_isAt_66
        · replace hm := if_f c_5 hm
          refine lv_iconst (v := 0) hx hb d_Lexicon_isAt_50 (by decide) ?_
          have e3 := re1 hm
          exact W.zret hx hb hr (by decide) (fun t9 ht hW => ⟨⟨_, (), rfl, e3.symm, trivial⟩, hS.F ht⟩) hS.2.2 d_Lexicon_isAt_51
def m_Lexicon_isAt_a0 (n : Nat) (g : Nat → Nat) (i : Nat → Int32) (a : Nat → Nat → Int32) (v1 : Int32) (v3 : Int32) : Option (Int32) := ck v1 86 (ob1 (a 6 v1.toNatClampNeg : Int32) (fun x_2 => m_Lexicon_isAt_a0_b11 n g i a n v3 x_2 (0 : Int32)))
set_option maxHeartbeats 4000000 in
set_option maxRecDepth 100000 in
theorem x_Lexicon_isAt_a0 (l : Launch) (dC : Nat → ClassId) (dI : Nat → Nat → Nat) (cI : ClassId) (adK adV adA u o g : Nat → Nat) (sz : Nat) (n : Nat) {i : Nat → Int32} {a : Nat → Nat → Int32} {v1 : Int32} {v3 : Int32} {r2 : Int32} (hm : m_Lexicon_isAt_a0 n g i a v1 v3 = some r2) : Met l y_Lexicon_isAt w_Lexicon_isAt ({ frames := 0, cells := 0, slots := 0, locals := 0 } : Room) (va_Pc [.ref ((u 2)), .int v1, .ref ((o 0)), .int v3] (xEr dC dI cI adK adV adA u o g i a sz)) (va_Qi (xR r2) xT (xN sz)) 0 0 (xN sz) := by
  refine Met.ofW (cc := b_Lexicon_isAt) (maxL := 6) (ret := (some .boolean)) (by decide) rfl ?_
  intro p e s m args below meth c s₁ B hml hv
  obtain ⟨rfl, hsz, hP, hK, hE⟩ := hv
  have hx := B.exec
  have hb := B.bytes
  have hr := B.returns
  have hts := atoms_spec (ws := w_Lexicon_isAt) B.pre
  have htt : ∀ w ∈ tw_T, w.before _ s = true := fun w h => hts w (List.mem_cons_of_mem _ h)
  have hown : s.vm.findClass R_Lexicon = some m.cls := findClass_of_methodNamed B.named
  have hlocks := B.notSynchronized
  subst hsz
  generalize hAe : xN s.heap.size = A at hE ⊢
  have hA : ∀ q : Nat, s.heap.size ≤ q → A q := fun q h => by rw [← hAe]; exact Or.inr h
  have hS : va_S A s.heap s.heap [] := va_S.rf
  have hl := lv_entry ([.ref ((u 2)), .int v1, .ref ((o 0)), .int v3]) (n := 6) (Nat.le_of_ble_eq_true rfl)
  rw [lg_entry_eq]
  generalize (lg_sl ([.ref ((u 2)), .int v1, .ref ((o 0)), .int v3]) ++ List.replicate (6 - (lg_sl ([.ref ((u 2)), .int v1, .ref ((o 0)), .int v3])).length) Slot.unset).toArray = ls at hl ⊢
  have hl : lv_has ls 6 [(0, .ref ((u 2))), (1, .int v1), (2, .ref ((o 0))), (3, .int v3)] := hl
  rw [m_Lexicon_isAt_a0] at hm
  refine lv_aload_n hx hb d_Lexicon_isAt_0 rfl (lv_at hl 0 rfl) ?_
  refine va_get (D := (dC, dI)) (ci := 2) (v := .ref ((u 16))) (C := R_Lexicon) (T := F_Lexicon) (N := 7) hx hb htt iw_Lexicon hown hK hP 2 xo_2 rfl 1 (Nat.le_of_ble_eq_true rfl) (htt _ lk_Lexicon_15) (fun _ h9 => h9) xg_2_1 d_Lexicon_isAt_1 ?_
  refine lv_iload_n hx hb d_Lexicon_isAt_4 rfl (lv_at hl 1 rfl) ?_
  obtain ⟨h_1, hm⟩ := ck_some hm
  refine va_iald hx hb hK hP 18 0 twA_6 rfl h_1 d_Lexicon_isAt_5 ?_
  refine lv_topi (fun x_2 ex_2 => ?_)
  replace hm := ob1_at ex_2 hm
  refine lv_istore (lv' := [(4, .int x_2), (0, .ref ((u 2))), (1, .int v1), (2, .ref ((o 0))), (3, .int v3)]) hx hb d_Lexicon_isAt_6 hl (by decide) rfl (fun ls hl => ?_)
  refine lv_iconst (v := 0) hx hb d_Lexicon_isAt_8 (by decide) ?_
  refine lv_istore (lv' := [(5, .int 0), (4, .int x_2), (0, .ref ((u 2))), (1, .int v1), (2, .ref ((o 0))), (3, .int v3)]) hx hb d_Lexicon_isAt_9 hl (by decide) rfl (fun ls hl => ?_)
  exact lb_Lexicon_isAt_a0_11 l dC dI cI adK adV adA u o g n hx hb hml hown hts hK hE hA hr hlocks n _ _ _ hm _ _ _ hP hS (lv_sub hl [2, 4, 5, 1, 0] rfl)

def m_Lexicon_meaning_a0_b43 (n : Nat) (g : Nat → Nat) (i : Nat → Int32) (a : Nat → Nat → Int32) : Nat → Int32 → Int32 → Int32 → Option (Int32)
  | 0, _, _, _ => none
  | f + 1, v2, v3, v4 => if ((256 : Int32)) ≤ v4 then some 0 else ck (((v3 + v4) &&& 255)) 256 (ob1 (a 9 ((v3 + v4) &&& 255).toNatClampNeg : Int32) (fun x_3 => if x_3 = ((0 : Int32)) then some x_3 else ob0 (m_Lexicon_isAt_a0 n g i a x_3 v2) (fun r_6 => if r_6 = ((0 : Int32)) then ob1 (v4 + 1 : Int32) (fun x_8 => m_Lexicon_meaning_a0_b43 n g i a f v2 v3 x_8) else some x_3)))
set_option maxHeartbeats 4000000 in
set_option maxRecDepth 100000 in
theorem lb_Lexicon_meaning_a0_43 (l : Launch) (dC : Nat → ClassId) (dI : Nat → Nat → Nat) (cI : ClassId) (adK adV adA u o g : Nat → Nat) (n : Nat) {p : Program} {e : Env} {s : State} {m : MethodId} {args : Array Value} {below : List Frame} {meth : Method} {c : Code} {A : Nat → Prop} (hx : p.tables.exec = Jvm.exec) (hb : c.code = b_Lexicon_meaning) (hml : c.maxLocals = 6) (hown : s.vm.findClass R_Lexicon = some m.cls) (hts : ∀ w ∈ w_Lexicon_meaning, w.before args s = true) (hK : va_K (dC, dI) classes [(cI, .int)] s) (hE : tw_E adK adV adA A s s.heap) (hA : ∀ q : Nat, s.heap.size ≤ q → A q) (hr : meth.sig.returnType = (some .int)) (hlocks : meth.locks = false) {i : Nat → Int32} {a : Nat → Nat → Int32} {r2 : Int32} : ∀ (f : Nat) (v2 : Int32) (v3 : Int32) (v4 : Int32), m_Lexicon_meaning_a0_b43 n g i a f v2 v3 v4 = some r2 → ∀ (H : Heap) (locs : List Loc) (ls : Array Slot), va_P (dC, dI) classes (TW cI u o i a g) H → va_S A s.heap H locs → lv_has ls 6 [(0, .ref ((u 2))), (1, .ref ((o 0))), (2, .int v2), (3, .int v3), (4, .int v4)] → W p l e ({ frames := 2, cells := 0, slots := 0, locals := 44 } : Room) s m args below meth c H locs 0 0 (MQ below (va_Qi (xR r2) xT A) args s 0 0 A) (F0 m 43 ls []) := by
  have htt : ∀ w ∈ tw_T, w.before _ s = true := fun w h => hts w (List.mem_cons_of_mem _ h)
  intro f
  induction f with
  | zero =>
    intro v2 v3 v4 hm
    rw [m_Lexicon_meaning_a0_b43] at hm
    cases hm
  | succ f ih =>
    intro v2 v3 v4 hm H locs ls hP hS hl
    rw [m_Lexicon_meaning_a0_b43] at hm
    refine lv_iload hx hb d_Lexicon_meaning_43 (lv_at hl 4 rfl) ?_
    refine lv_sipush (v := 256) hx hb d_Lexicon_meaning_45 (by decide) ?_
    refine lv_icmp_ge (tgt := 91) hx hb d_Lexicon_meaning_48 (by decide) (fun c_1 => ?_) (fun c_1 => ?_)
    · replace hm := if_t c_1 hm
      refine lv_iconst (v := 0) hx hb d_Lexicon_meaning_91 (by decide) ?_
      have e3 := re1 hm
      exact W.iret hx hb hr (fun t9 ht hW => ⟨⟨_, (), rfl, e3.symm, trivial⟩, hS.F ht⟩) hS.2.2 d_Lexicon_meaning_92
    · replace hm := if_f c_1 hm
      refine lv_aload_n hx hb d_Lexicon_meaning_51 rfl (lv_at hl 0 rfl) ?_
      refine va_get (D := (dC, dI)) (ci := 2) (v := .ref ((u 19))) (C := R_Lexicon) (T := F_Lexicon) (N := 7) hx hb htt iw_Lexicon hown hK hP 2 xo_2 rfl 4 (Nat.le_of_ble_eq_true rfl) (htt _ lk_Lexicon_24) (fun _ h9 => h9) xg_2_4 d_Lexicon_meaning_52 ?_
      refine lv_iload_n hx hb d_Lexicon_meaning_55 rfl (lv_at hl 3 rfl) ?_
      refine lv_iload hx hb d_Lexicon_meaning_56 (lv_at hl 4 rfl) ?_
      refine lv_iadd hx hb d_Lexicon_meaning_58 ?_
      refine lv_sipush (v := 255) hx hb d_Lexicon_meaning_59 (by decide) ?_
      refine lv_iand hx hb d_Lexicon_meaning_62 ?_
      obtain ⟨h_2, hm⟩ := ck_some hm
      refine va_iald hx hb hK hP 21 0 twA_9 rfl h_2 d_Lexicon_meaning_63 ?_
      refine lv_topi (fun x_3 ex_3 => ?_)
      replace hm := ob1_at ex_3 hm
      refine lv_istore (lv' := [(5, .int x_3), (0, .ref ((u 2))), (1, .ref ((o 0))), (2, .int v2), (3, .int v3), (4, .int v4)]) hx hb d_Lexicon_meaning_64 hl (by decide) rfl (fun ls hl => ?_)
      refine lv_iload hx hb d_Lexicon_meaning_66 (lv_at hl 0 rfl) ?_
      refine lv_if_eq (tgt := 82) hx hb d_Lexicon_meaning_68 (by decide) (fun c_4 => ?_) (fun c_4 => ?_)
      · replace hm := if_t c_4 hm
        refine lv_iload hx hb d_Lexicon_meaning_82 (lv_at hl 0 rfl) ?_
        have e3 := re1 hm
        exact W.iret hx hb hr (fun t9 ht hW => ⟨⟨_, (), rfl, e3.symm, trivial⟩, hS.F ht⟩) hS.2.2 d_Lexicon_meaning_84
      · replace hm := if_f c_4 hm
        refine lv_aload_n hx hb d_Lexicon_meaning_71 rfl (lv_at hl 1 rfl) ?_
        refine lv_iload hx hb d_Lexicon_meaning_72 (lv_at hl 0 rfl) ?_
        refine lv_aload_n hx hb d_Lexicon_meaning_74 rfl (lv_at hl 2 rfl) ?_
        refine lv_iload_n hx hb d_Lexicon_meaning_75 rfl (lv_at hl 3 rfl) ?_
        obtain ⟨r_6, h_5, hm⟩ := ob0_some hm
        have hFc := x_free0 hS hA
        refine va_calli (va_runV (As := [.int x_3, .ref ((o 0)), .int v2]) (rest := []) ⟨hx, hb, hml, hown, hts⟩ (x_Lexicon_isAt_a0 l dC dI cI adK adV adA u o g H.size n h_5) (cwV 3 hts (tw_GV tw_cons cw_Lexicon_isAt lk_Lexicon_83 in_Lexicon_isAt sel_Lexicon_isAt ini_Lexicon) rfl rfl rfl ⟨rfl, hd_Lexicon_isAt⟩ ⟨Nat.le_of_ble_eq_true rfl, Nat.le_of_ble_eq_true rfl⟩) (xpVr hK hP hS hE hFc xo_2 rfl) rfl rfl hl.1 rfl (lv_room (Nat.le_of_ble_eq_true rfl)) d_Lexicon_meaning_76 ⟨Nat.le_of_ble_eq_true rfl, Nat.le_of_ble_eq_true rfl⟩) hS (fun q _ h => hFc q h) hFc (fun r9 u9 t9 H locs ht hvm e9 hB hz1 hk1 hS => ?_)
        have e9 : r_6 = r9 := e9
        subst e9
        replace hP := x_keep hP hk1
        clear hFc hk1 hz1 hvm hB ht
        refine lv_if_eq (tgt := 85) hx hb d_Lexicon_meaning_79 (by decide) (fun c_7 => ?_) (fun c_7 => ?_)
        · replace hm := if_t c_7 hm
          obtain ⟨x_8, ex_8⟩ : ∃ y9 : Int32, y9 = v4 + 1 := ⟨_, rfl⟩
          replace hm := ob1_at ex_8 hm
          refine lv_iinc (v := x_8) (lv' := [(4, .int x_8), (5, .int x_3), (0, .ref ((u 2))), (1, .ref ((o 0))), (2, .int v2), (3, .int v3)]) hx hb d_Lexicon_meaning_85 hl (k := 5) rfl (by rw [ex_8]; rfl) (by decide) rfl (fun ls hl => ?_)
          refine lv_goto (tgt := 43) hx hb d_Lexicon_meaning_88 (by decide) ?_
          exact ih _ _ _ hm _ _ _ hP hS (lv_sub hl [2, 3, 4, 5, 0] rfl)
        · replace hm := if_f c_7 hm
          refine lv_iload hx hb d_Lexicon_meaning_82 (lv_at hl 0 rfl) ?_
          have e3 := re1 hm
          exact W.iret hx hb hr (fun t9 ht hW => ⟨⟨_, (), rfl, e3.symm, trivial⟩, hS.F ht⟩) hS.2.2 d_Lexicon_meaning_84
def m_Lexicon_meaning_a0 (n : Nat) (g : Nat → Nat) (i : Nat → Int32) (a : Nat → Nat → Int32) (v2 : Int32) : Option (Int32) := if v2 < ((0 : Int32)) then some 0 else if v2 < ((nI (g 0))) then ck v2 (g 0) (if ((a 0 v2.toNatClampNeg)) = ((34 : Int32)) then some 86 else ck v2 (g 0) (if ((a 0 v2.toNatClampNeg)) = ((58 : Int32)) then some 87 else ob0 (m_Lexicon_hashOf_a0 n g i a v2) (fun r_8 => m_Lexicon_meaning_a0_b43 n g i a n v2 r_8 (0 : Int32)))) else some 0
set_option maxHeartbeats 4000000 in
set_option maxRecDepth 100000 in
theorem x_Lexicon_meaning_a0 (l : Launch) (dC : Nat → ClassId) (dI : Nat → Nat → Nat) (cI : ClassId) (adK adV adA u o g : Nat → Nat) (sz : Nat) (n : Nat) {i : Nat → Int32} {a : Nat → Nat → Int32} {v2 : Int32} {r2 : Int32} (hm : m_Lexicon_meaning_a0 n g i a v2 = some r2) : Met l y_Lexicon_meaning w_Lexicon_meaning ({ frames := 2, cells := 0, slots := 0, locals := 44 } : Room) (va_Pc [.ref ((u 2)), .ref ((o 0)), .int v2] (xEr dC dI cI adK adV adA u o g i a sz)) (va_Qi (xR r2) xT (xN sz)) 0 0 (xN sz) := by
  refine Met.ofW (cc := b_Lexicon_meaning) (maxL := 6) (ret := (some .int)) (by decide) rfl ?_
  intro p e s m args below meth c s₁ B hml hv
  obtain ⟨rfl, hsz, hP, hK, hE⟩ := hv
  have hx := B.exec
  have hb := B.bytes
  have hr := B.returns
  have hts := atoms_spec (ws := w_Lexicon_meaning) B.pre
  have htt : ∀ w ∈ tw_T, w.before _ s = true := fun w h => hts w (List.mem_cons_of_mem _ h)
  have hown : s.vm.findClass R_Lexicon = some m.cls := findClass_of_methodNamed B.named
  have hlocks := B.notSynchronized
  subst hsz
  generalize hAe : xN s.heap.size = A at hE ⊢
  have hA : ∀ q : Nat, s.heap.size ≤ q → A q := fun q h => by rw [← hAe]; exact Or.inr h
  have hS : va_S A s.heap s.heap [] := va_S.rf
  have hl := lv_entry ([.ref ((u 2)), .ref ((o 0)), .int v2]) (n := 6) (Nat.le_of_ble_eq_true rfl)
  rw [lg_entry_eq]
  generalize (lg_sl ([.ref ((u 2)), .ref ((o 0)), .int v2]) ++ List.replicate (6 - (lg_sl ([.ref ((u 2)), .ref ((o 0)), .int v2])).length) Slot.unset).toArray = ls at hl ⊢
  have hl : lv_has ls 6 [(0, .ref ((u 2))), (1, .ref ((o 0))), (2, .int v2)] := hl
  rw [m_Lexicon_meaning_a0] at hm
  refine lv_iload_n hx hb d_Lexicon_meaning_0 rfl (lv_at hl 2 rfl) ?_
  refine lv_if_lt (tgt := 10) hx hb d_Lexicon_meaning_1 (by decide) (fun c_1 => ?_) (fun c_1 => ?_)
  · replace hm := if_t c_1 hm
    refine lv_iconst (v := 0) hx hb d_Lexicon_meaning_10 (by decide) ?_
    have e3 := re1 hm
    exact W.iret hx hb hr (fun t9 ht hW => ⟨⟨_, (), rfl, e3.symm, trivial⟩, hS.F ht⟩) hS.2.2 d_Lexicon_meaning_11
  · replace hm := if_f c_1 hm
    refine lv_iload_n hx hb d_Lexicon_meaning_4 rfl (lv_at hl 2 rfl) ?_
    refine lv_aload_n hx hb d_Lexicon_meaning_5 rfl (lv_at hl 1 rfl) ?_
    refine va_alen (v := nI (g 0)) hx hb hK hP 12 0 twA_0 rfl rfl d_Lexicon_meaning_6 ?_
    refine lv_icmp_lt (tgt := 12) hx hb d_Lexicon_meaning_7 (by decide) (fun c_2 => ?_) (fun c_2 => ?_)
    · replace hm := if_t c_2 hm
      refine lv_aload_n hx hb d_Lexicon_meaning_12 rfl (lv_at hl 1 rfl) ?_
      refine lv_iload_n hx hb d_Lexicon_meaning_13 rfl (lv_at hl 2 rfl) ?_
      obtain ⟨h_3, hm⟩ := ck_some hm
      refine va_iald hx hb hK hP 12 0 twA_0 rfl h_3 d_Lexicon_meaning_14 ?_
      refine lv_bipush (v := 34) hx hb d_Lexicon_meaning_15 (by decide) ?_
      refine lv_icmp_ne (tgt := 23) hx hb d_Lexicon_meaning_17 (by decide) (fun c_4 => ?_) (fun c_4 => ?_)
      · replace hm := if_f c_4 hm
        refine lv_aload_n hx hb d_Lexicon_meaning_23 rfl (lv_at hl 1 rfl) ?_
        refine lv_iload_n hx hb d_Lexicon_meaning_24 rfl (lv_at hl 2 rfl) ?_
        obtain ⟨h_5, hm⟩ := ck_some hm
        refine va_iald hx hb hK hP 12 0 twA_0 rfl h_5 d_Lexicon_meaning_25 ?_
        refine lv_bipush (v := 58) hx hb d_Lexicon_meaning_26 (by decide) ?_
        refine lv_icmp_ne (tgt := 34) hx hb d_Lexicon_meaning_28 (by decide) (fun c_6 => ?_) (fun c_6 => ?_)
        · replace hm := if_f c_6 hm
          refine lv_aload_n hx hb d_Lexicon_meaning_34 rfl (lv_at hl 1 rfl) ?_
          refine lv_iload_n hx hb d_Lexicon_meaning_35 rfl (lv_at hl 2 rfl) ?_
          obtain ⟨r_8, h_7, hm⟩ := ob0_some hm
          have hFc := x_free0 hS hA
          refine va_calli (va_runS (As := [.ref ((o 0)), .int v2]) (rest := []) ⟨hx, hb, hml, hown, hts⟩ (x_Lexicon_hashOf_a0 l dC dI cI adK adV adA u o g s.heap.size n h_7) (va_cwS 2 hts (tw_GS tw_cons cw_Lexicon_hashOf lk_Lexicon_73 st_Lexicon_hashOf ini_Lexicon) rfl rfl rfl hd_Lexicon_hashOf ⟨Nat.le_of_ble_eq_true rfl, Nat.le_of_ble_eq_true rfl⟩) (xpSr hK hP hS hE hFc) rfl rfl hl.1 rfl (lv_room (Nat.le_of_ble_eq_true rfl)) d_Lexicon_meaning_36 ⟨Nat.le_of_ble_eq_true rfl, Nat.le_of_ble_eq_true rfl⟩) hS (fun q _ h => hFc q h) hFc (fun r9 u9 t9 H locs ht hvm e9 hB hz1 hk1 hS => ?_)
          have e9 : r_8 = r9 := e9
          subst e9
          replace hP := x_keep hP hk1
          clear hFc hk1 hz1 hvm hB ht
          refine lv_istore_n (lv' := [(3, .int r_8), (0, .ref ((u 2))), (1, .ref ((o 0))), (2, .int v2)]) hx hb d_Lexicon_meaning_39 rfl hl (by decide) rfl (fun ls hl => ?_)
          refine lv_iconst (v := 0) hx hb d_Lexicon_meaning_40 (by decide) ?_
          refine lv_istore (lv' := [(4, .int 0), (3, .int r_8), (0, .ref ((u 2))), (1, .ref ((o 0))), (2, .int v2)]) hx hb d_Lexicon_meaning_41 hl (by decide) rfl (fun ls hl => ?_)
          exact lb_Lexicon_meaning_a0_43 l dC dI cI adK adV adA u o g n hx hb hml hown hts hK hE hA hr hlocks n _ _ _ hm _ _ _ hP hS (lv_sub hl [2, 3, 4, 1, 0] rfl)
        · replace hm := if_t c_6 hm
          refine lv_bipush (v := 87) hx hb d_Lexicon_meaning_31 (by decide) ?_
          have e3 := re1 hm
          exact W.iret hx hb hr (fun t9 ht hW => ⟨⟨_, (), rfl, e3.symm, trivial⟩, hS.F ht⟩) hS.2.2 d_Lexicon_meaning_33
      · replace hm := if_t c_4 hm
        refine lv_bipush (v := 86) hx hb d_Lexicon_meaning_20 (by decide) ?_
        have e3 := re1 hm
        exact W.iret hx hb hr (fun t9 ht hW => ⟨⟨_, (), rfl, e3.symm, trivial⟩, hS.F ht⟩) hS.2.2 d_Lexicon_meaning_22
    · replace hm := if_f c_2 hm
      refine lv_iconst (v := 0) hx hb d_Lexicon_meaning_10 (by decide) ?_
      have e3 := re1 hm
      exact W.iret hx hb hr (fun t9 ht hW => ⟨⟨_, (), rfl, e3.symm, trivial⟩, hS.F ht⟩) hS.2.2 d_Lexicon_meaning_11

def m_Heap_meaning (n : Nat) (g : Nat → Nat) (i : Nat → Int32) (a : Nat → Nat → Int32) (v1 : Int32) : Option (Int32) := ob1 (v1 >>> ((2 : Int32) &&& 31) : Int32) (fun x_1 => if x_1 ≤ ((0 : Int32)) then some 0 else if x_1 < ((nI (g 0))) then ck ((x_1 - 1)) (g 0) (ob1 (a 0 (x_1 - 1).toNatClampNeg : Int32) (fun x_5 => if x_5 < ((128 : Int32)) then ob0 (m_Lexicon_meaning_a0 n g i a x_1) (fun r_8 => some r_8) else some (x_5 - 128))) else some 0)
set_option maxHeartbeats 4000000 in
set_option maxRecDepth 100000 in
theorem x_Heap_meaning (l : Launch) (dC : Nat → ClassId) (dI : Nat → Nat → Nat) (cI : ClassId) (adK adV adA u o g : Nat → Nat) (sz : Nat) (n : Nat) {i : Nat → Int32} {a : Nat → Nat → Int32} {v1 : Int32} {r2 : Int32} (hm : m_Heap_meaning n g i a v1 = some r2) : Met l y_Heap_meaning w_Heap_meaning ({ frames := 3, cells := 0, slots := 0, locals := 69 } : Room) (va_Pc [.ref ((u 1)), .int v1] (xEr dC dI cI adK adV adA u o g i a sz)) (va_Qi (xR r2) xT (xN sz)) 0 0 (xN sz) := by
  refine Met.ofW (cc := b_Heap_meaning) (maxL := 4) (ret := (some .int)) (by decide) rfl ?_
  intro p e s m args below meth c s₁ B hml hv
  obtain ⟨rfl, hsz, hP, hK, hE⟩ := hv
  have hx := B.exec
  have hb := B.bytes
  have hr := B.returns
  have hts := atoms_spec (ws := w_Heap_meaning) B.pre
  have htt : ∀ w ∈ tw_T, w.before _ s = true := fun w h => hts w (List.mem_cons_of_mem _ h)
  have hown : s.vm.findClass R_Heap = some m.cls := findClass_of_methodNamed B.named
  have hlocks := B.notSynchronized
  subst hsz
  generalize hAe : xN s.heap.size = A at hE ⊢
  have hA : ∀ q : Nat, s.heap.size ≤ q → A q := fun q h => by rw [← hAe]; exact Or.inr h
  have hS : va_S A s.heap s.heap [] := va_S.rf
  have hl := lv_entry ([.ref ((u 1)), .int v1]) (n := 4) (Nat.le_of_ble_eq_true rfl)
  rw [lg_entry_eq]
  generalize (lg_sl ([.ref ((u 1)), .int v1]) ++ List.replicate (4 - (lg_sl ([.ref ((u 1)), .int v1])).length) Slot.unset).toArray = ls at hl ⊢
  have hl : lv_has ls 4 [(0, .ref ((u 1))), (1, .int v1)] := hl
  rw [m_Heap_meaning] at hm
  refine lv_iload_n hx hb d_Heap_meaning_0 rfl (lv_at hl 1 rfl) ?_
  refine lv_iconst (v := 2) hx hb d_Heap_meaning_1 (by decide) ?_
  refine lv_ishr hx hb d_Heap_meaning_2 ?_
  refine lv_topi (fun x_1 ex_1 => ?_)
  replace hm := ob1_at ex_1 hm
  refine lv_istore_n (lv' := [(2, .int x_1), (0, .ref ((u 1))), (1, .int v1)]) hx hb d_Heap_meaning_3 rfl hl (by decide) rfl (fun ls hl => ?_)
  refine lv_iload_n hx hb d_Heap_meaning_4 rfl (lv_at hl 0 rfl) ?_
  refine lv_if_le (tgt := 17) hx hb d_Heap_meaning_5 (by decide) (fun c_2 => ?_) (fun c_2 => ?_)
  · replace hm := if_t c_2 hm
    refine lv_iconst (v := 0) hx hb d_Heap_meaning_17 (by decide) ?_
    have e3 := re1 hm
    exact W.iret hx hb hr (fun t9 ht hW => ⟨⟨_, (), rfl, e3.symm, trivial⟩, hS.F ht⟩) hS.2.2 d_Heap_meaning_18
  · replace hm := if_f c_2 hm
    refine lv_iload_n hx hb d_Heap_meaning_8 rfl (lv_at hl 0 rfl) ?_
    refine lv_aload_n hx hb d_Heap_meaning_9 rfl (lv_at hl 1 rfl) ?_
    refine va_get (D := (dC, dI)) (ci := 1) (v := .ref ((o 0))) (C := R_Heap) (T := F_Heap) (N := 12) hx hb htt iw_Heap hown hK hP 1 xo_1 rfl 5 (Nat.le_of_ble_eq_true rfl) (htt _ lk_Heap_11) (fun _ h9 => h9) xg_1_5 d_Heap_meaning_10 ?_
    refine va_alen (v := nI (g 0)) hx hb hK hP 12 0 twA_0 rfl rfl d_Heap_meaning_13 ?_
    refine lv_icmp_lt (tgt := 19) hx hb d_Heap_meaning_14 (by decide) (fun c_3 => ?_) (fun c_3 => ?_)
    · replace hm := if_t c_3 hm
      refine lv_aload_n hx hb d_Heap_meaning_19 rfl (lv_at hl 1 rfl) ?_
      refine va_get (D := (dC, dI)) (ci := 1) (v := .ref ((o 0))) (C := R_Heap) (T := F_Heap) (N := 12) hx hb htt iw_Heap hown hK hP 1 xo_1 rfl 5 (Nat.le_of_ble_eq_true rfl) (htt _ lk_Heap_11) (fun _ h9 => h9) xg_1_5 d_Heap_meaning_20 ?_
      refine lv_iload_n hx hb d_Heap_meaning_23 rfl (lv_at hl 0 rfl) ?_
      refine lv_iconst (v := 1) hx hb d_Heap_meaning_24 (by decide) ?_
      refine lv_isub hx hb d_Heap_meaning_25 ?_
      obtain ⟨h_4, hm⟩ := ck_some hm
      refine va_iald hx hb hK hP 12 0 twA_0 rfl h_4 d_Heap_meaning_26 ?_
      refine lv_topi (fun x_5 ex_5 => ?_)
      replace hm := ob1_at ex_5 hm
      refine lv_istore_n (lv' := [(3, .int x_5), (2, .int x_1), (0, .ref ((u 1))), (1, .int v1)]) hx hb d_Heap_meaning_27 rfl hl (by decide) rfl (fun ls hl => ?_)
      refine lv_iload_n hx hb d_Heap_meaning_28 rfl (lv_at hl 0 rfl) ?_
      refine lv_sipush (v := 128) hx hb d_Heap_meaning_29 (by decide) ?_
      refine lv_icmp_lt (tgt := 43) hx hb d_Heap_meaning_32 (by decide) (fun c_6 => ?_) (fun c_6 => ?_)
      · replace hm := if_t c_6 hm
        refine lv_aload_n hx hb d_Heap_meaning_43 rfl (lv_at hl 2 rfl) ?_
        refine va_get (D := (dC, dI)) (ci := 1) (v := .ref ((u 2))) (C := R_Heap) (T := F_Heap) (N := 12) hx hb htt iw_Heap hown hK hP 1 xo_1 rfl 0 (Nat.le_of_ble_eq_true rfl) (htt _ lk_Heap_31) (fun _ h9 => h9) xg_1_0 d_Heap_meaning_44 ?_
        refine lv_aload_n hx hb d_Heap_meaning_47 rfl (lv_at hl 2 rfl) ?_
        refine va_get (D := (dC, dI)) (ci := 1) (v := .ref ((o 0))) (C := R_Heap) (T := F_Heap) (N := 12) hx hb htt iw_Heap hown hK hP 1 xo_1 rfl 5 (Nat.le_of_ble_eq_true rfl) (htt _ lk_Heap_11) (fun _ h9 => h9) xg_1_5 d_Heap_meaning_48 ?_
        refine lv_iload_n hx hb d_Heap_meaning_51 rfl (lv_at hl 1 rfl) ?_
        obtain ⟨r_8, h_7, hm⟩ := ob0_some hm
        have hFc := x_free0 hS hA
        refine va_calli (va_runV (As := [.ref ((o 0)), .int x_1]) (rest := []) ⟨hx, hb, hml, hown, hts⟩ (x_Lexicon_meaning_a0 l dC dI cI adK adV adA u o g s.heap.size n h_7) (cwV 2 hts (tw_GV tw_cons cw_Lexicon_meaning lk_Heap_112 in_Lexicon_meaning sel_Lexicon_meaning ini_Lexicon) rfl rfl rfl ⟨rfl, hd_Lexicon_meaning⟩ ⟨Nat.le_of_ble_eq_true rfl, Nat.le_of_ble_eq_true rfl⟩) (xpVr hK hP hS hE hFc xo_2 rfl) rfl rfl hl.1 rfl (lv_room (Nat.le_of_ble_eq_true rfl)) d_Heap_meaning_52 ⟨Nat.le_of_ble_eq_true rfl, Nat.le_of_ble_eq_true rfl⟩) hS (fun q _ h => hFc q h) hFc (fun r9 u9 t9 H locs ht hvm e9 hB hz1 hk1 hS => ?_)
        have e9 : r_8 = r9 := e9
        subst e9
        replace hP := x_keep hP hk1
        clear hFc hk1 hz1 hvm hB ht
        have e3 := re1 hm
        exact W.iret hx hb hr (fun t9 ht hW => ⟨⟨_, (), rfl, e3.symm, trivial⟩, hS.F ht⟩) hS.2.2 d_Heap_meaning_55
      · replace hm := if_f c_6 hm
        refine lv_iload_n hx hb d_Heap_meaning_35 rfl (lv_at hl 0 rfl) ?_
        refine lv_sipush (v := 128) hx hb d_Heap_meaning_36 (by decide) ?_
        refine lv_isub hx hb d_Heap_meaning_39 ?_
        refine lv_goto (tgt := 55) hx hb d_Heap_meaning_40 (by decide) ?_
        have e3 := re1 hm
        exact W.iret hx hb hr (fun t9 ht hW => ⟨⟨_, (), rfl, e3.symm, trivial⟩, hS.F ht⟩) hS.2.2 d_Heap_meaning_55
    · replace hm := if_f c_3 hm
      refine lv_iconst (v := 0) hx hb d_Heap_meaning_17 (by decide) ?_
      have e3 := re1 hm
      exact W.iret hx hb hr (fun t9 ht hW => ⟨⟨_, (), rfl, e3.symm, trivial⟩, hS.F ht⟩) hS.2.2 d_Heap_meaning_18
