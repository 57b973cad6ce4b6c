theorem d_Model_root_0 : decode b_Model_root 0 = .ok (.lconst 0, 1) := by decide +kernel
theorem d_Model_root_1 : decode b_Model_root 1 = .ok (.lstore_n 2, 1) := by decide +kernel
theorem d_Model_root_2 : decode b_Model_root 2 = .ok (.ldc2_w 791, 3) := by decide +kernel
theorem d_Model_root_5 : decode b_Model_root 5 = .ok (.lstore 4, 2) := by decide +kernel
theorem d_Model_root_7 : decode b_Model_root 7 = .ok (.lload 4, 2) := by decide +kernel
theorem d_Model_root_9 : decode b_Model_root 9 = .ok (.lconst 0, 1) := by decide +kernel
theorem d_Model_root_10 : decode b_Model_root 10 = .ok (.lcmp, 1) := by decide +kernel
theorem d_Model_root_11 : decode b_Model_root 11 = .ok (.ifCond .le 42, 3) := by decide +kernel
theorem d_Model_root_14 : decode b_Model_root 14 = .ok (.lload_n 2, 1) := by decide +kernel
theorem d_Model_root_15 : decode b_Model_root 15 = .ok (.lload 4, 2) := by decide +kernel
theorem d_Model_root_17 : decode b_Model_root 17 = .ok (.ladd, 1) := by decide +kernel
theorem d_Model_root_18 : decode b_Model_root 18 = .ok (.ldc2_w 793, 3) := by decide +kernel
theorem d_Model_root_21 : decode b_Model_root 21 = .ok (.lcmp, 1) := by decide +kernel
theorem d_Model_root_22 : decode b_Model_root 22 = .ok (.ifCond .gt 22, 3) := by decide +kernel
theorem d_Model_root_25 : decode b_Model_root 25 = .ok (.lload_n 2, 1) := by decide +kernel
theorem d_Model_root_26 : decode b_Model_root 26 = .ok (.lload 4, 2) := by decide +kernel
theorem d_Model_root_28 : decode b_Model_root 28 = .ok (.ladd, 1) := by decide +kernel
theorem d_Model_root_29 : decode b_Model_root 29 = .ok (.lload_n 2, 1) := by decide +kernel
theorem d_Model_root_30 : decode b_Model_root 30 = .ok (.lload 4, 2) := by decide +kernel
theorem d_Model_root_32 : decode b_Model_root 32 = .ok (.ladd, 1) := by decide +kernel
theorem d_Model_root_33 : decode b_Model_root 33 = .ok (.lmul, 1) := by decide +kernel
theorem d_Model_root_34 : decode b_Model_root 34 = .ok (.lload_n 0, 1) := by decide +kernel
theorem d_Model_root_35 : decode b_Model_root 35 = .ok (.lcmp, 1) := by decide +kernel
theorem d_Model_root_36 : decode b_Model_root 36 = .ok (.ifCond .gt 8, 3) := by decide +kernel
theorem d_Model_root_39 : decode b_Model_root 39 = .ok (.lload_n 2, 1) := by decide +kernel
theorem d_Model_root_40 : decode b_Model_root 40 = .ok (.lload 4, 2) := by decide +kernel
theorem d_Model_root_42 : decode b_Model_root 42 = .ok (.ladd, 1) := by decide +kernel
theorem d_Model_root_43 : decode b_Model_root 43 = .ok (.lstore_n 2, 1) := by decide +kernel
theorem d_Model_root_44 : decode b_Model_root 44 = .ok (.lload 4, 2) := by decide +kernel
theorem d_Model_root_46 : decode b_Model_root 46 = .ok (.iconst 1, 1) := by decide +kernel
theorem d_Model_root_47 : decode b_Model_root 47 = .ok (.lshr, 1) := by decide +kernel
theorem d_Model_root_48 : decode b_Model_root 48 = .ok (.lstore 4, 2) := by decide +kernel
theorem d_Model_root_50 : decode b_Model_root 50 = .ok (.goto (-43), 3) := by decide +kernel
theorem d_Model_root_53 : decode b_Model_root 53 = .ok (.lload_n 2, 1) := by decide +kernel
theorem d_Model_root_54 : decode b_Model_root 54 = .ok (.lreturn, 1) := by decide +kernel
theorem lk_Model_791 : Cond.constantLong "TurtleWorldModel" 791 1073741824 ∈ tw_T := tw_i11 38 (by decide +kernel) (by decide +kernel)
theorem lk_Model_793 : Cond.constantLong "TurtleWorldModel" 793 3000000000 ∈ tw_T := tw_i11 39 (by decide +kernel) (by decide +kernel)
theorem d_Model_set_0 : decode b_Model_set 0 = .ok (.aload_n 0, 1) := by decide +kernel
theorem d_Model_set_1 : decode b_Model_set 1 = .ok (.getfield 201, 3) := by decide +kernel
theorem d_Model_set_4 : decode b_Model_set 4 = .ok (.iload_n 1, 1) := by decide +kernel
theorem d_Model_set_5 : decode b_Model_set 5 = .ok (.iload_n 2, 1) := by decide +kernel
theorem d_Model_set_6 : decode b_Model_set 6 = .ok (.iastore, 1) := by decide +kernel
theorem d_Model_set_7 : decode b_Model_set 7 = .ok (.aload_n 0, 1) := by decide +kernel
theorem d_Model_set_8 : decode b_Model_set 8 = .ok (.getfield 204, 3) := by decide +kernel
theorem d_Model_set_11 : decode b_Model_set 11 = .ok (.iload_n 1, 1) := by decide +kernel
theorem d_Model_set_12 : decode b_Model_set 12 = .ok (.iload_n 3, 1) := by decide +kernel
theorem d_Model_set_13 : decode b_Model_set 13 = .ok (.iastore, 1) := by decide +kernel
theorem d_Model_set_14 : decode b_Model_set 14 = .ok (.aload_n 0, 1) := by decide +kernel
theorem d_Model_set_15 : decode b_Model_set 15 = .ok (.getfield 207, 3) := by decide +kernel
theorem d_Model_set_18 : decode b_Model_set 18 = .ok (.iload_n 1, 1) := by decide +kernel
theorem d_Model_set_19 : decode b_Model_set 19 = .ok (.iload 4, 2) := by decide +kernel
theorem d_Model_set_21 : decode b_Model_set 21 = .ok (.iastore, 1) := by decide +kernel
theorem d_Model_set_22 : decode b_Model_set 22 = .ok (.aload_n 0, 1) := by decide +kernel
theorem d_Model_set_23 : decode b_Model_set 23 = .ok (.getfield 210, 3) := by decide +kernel
theorem d_Model_set_26 : decode b_Model_set 26 = .ok (.iload_n 1, 1) := by decide +kernel
theorem d_Model_set_27 : decode b_Model_set 27 = .ok (.iload 5, 2) := by decide +kernel
theorem d_Model_set_29 : decode b_Model_set 29 = .ok (.iastore, 1) := by decide +kernel
theorem d_Model_set_30 : decode b_Model_set 30 = .ok (.return_, 1) := by decide +kernel
theorem d_Model_truth_0 : decode b_Model_truth 0 = .ok (.iload_n 1, 1) := by decide +kernel
theorem d_Model_truth_1 : decode b_Model_truth 1 = .ok (.ifCond .eq 10, 3) := by decide +kernel
theorem d_Model_truth_4 : decode b_Model_truth 4 = .ok (.aload_n 0, 1) := by decide +kernel
theorem d_Model_truth_5 : decode b_Model_truth 5 = .ok (.getfield 579, 3) := by decide +kernel
theorem d_Model_truth_8 : decode b_Model_truth 8 = .ok (.goto 7, 3) := by decide +kernel
theorem d_Model_truth_11 : decode b_Model_truth 11 = .ok (.aload_n 0, 1) := by decide +kernel
theorem d_Model_truth_12 : decode b_Model_truth 12 = .ok (.getfield 584, 3) := by decide +kernel
theorem d_Model_truth_15 : decode b_Model_truth 15 = .ok (.lreturn, 1) := by decide +kernel
theorem d_Model_tellOut_0 : decode b_Model_tellOut 0 = .ok (.aload_n 0, 1) := by decide +kernel
theorem d_Model_tellOut_1 : decode b_Model_tellOut 1 = .ok (.getfield 225, 3) := by decide +kernel
theorem d_Model_tellOut_4 : decode b_Model_tellOut 4 = .ok (.aload_n 0, 1) := by decide +kernel
theorem d_Model_tellOut_5 : decode b_Model_tellOut 5 = .ok (.getfield 356, 3) := by decide +kernel
theorem d_Model_tellOut_8 : decode b_Model_tellOut 8 = .ok (.ldc2_w 789, 3) := by decide +kernel
theorem d_Model_tellOut_11 : decode b_Model_tellOut 11 = .ok (.lrem, 1) := by decide +kernel
theorem d_Model_tellOut_12 : decode b_Model_tellOut 12 = .ok (.l2i, 1) := by decide +kernel
theorem d_Model_tellOut_13 : decode b_Model_tellOut 13 = .ok (.iload_n 1, 1) := by decide +kernel
theorem d_Model_tellOut_14 : decode b_Model_tellOut 14 = .ok (.i2b, 1) := by decide +kernel
theorem d_Model_tellOut_15 : decode b_Model_tellOut 15 = .ok (.bastore, 1) := by decide +kernel
theorem d_Model_tellOut_16 : decode b_Model_tellOut 16 = .ok (.aload_n 0, 1) := by decide +kernel
theorem d_Model_tellOut_17 : decode b_Model_tellOut 17 = .ok (.dup, 1) := by decide +kernel
theorem d_Model_tellOut_18 : decode b_Model_tellOut 18 = .ok (.getfield 356, 3) := by decide +kernel
theorem d_Model_tellOut_21 : decode b_Model_tellOut 21 = .ok (.lconst 1, 1) := by decide +kernel
theorem d_Model_tellOut_22 : decode b_Model_tellOut 22 = .ok (.ladd, 1) := by decide +kernel
theorem d_Model_tellOut_23 : decode b_Model_tellOut 23 = .ok (.putfield 356, 3) := by decide +kernel
theorem d_Model_tellOut_26 : decode b_Model_tellOut 26 = .ok (.return_, 1) := by decide +kernel
theorem hd_Model_isSign : y_Model_isSign.cls ≠ "java/lang/invoke/MethodHandle" ∧ y_Model_isSign.cls ≠ "java/lang/invoke/VarHandle" ∧ (parseMethodDescriptor y_Model_isSign.desc).map (fun d => d.parameters.length) = some 1 := by decide +kernel
theorem d_Model_isAlone_0 : decode b_Model_isAlone 0 = .ok (.iload_n 1, 1) := by decide +kernel
theorem d_Model_isAlone_1 : decode b_Model_isAlone 1 = .ok (.iconst 1, 1) := by decide +kernel
theorem d_Model_isAlone_2 : decode b_Model_isAlone 2 = .ok (.iadd, 1) := by decide +kernel
theorem d_Model_isAlone_3 : decode b_Model_isAlone 3 = .ok (.iload_n 2, 1) := by decide +kernel
theorem d_Model_isAlone_4 : decode b_Model_isAlone 4 = .ok (.if_icmp .ge 17, 3) := by decide +kernel
theorem d_Model_isAlone_7 : decode b_Model_isAlone 7 = .ok (.aload_n 0, 1) := by decide +kernel
theorem d_Model_isAlone_8 : decode b_Model_isAlone 8 = .ok (.getfield 261, 3) := by decide +kernel
theorem d_Model_isAlone_11 : decode b_Model_isAlone 11 = .ok (.iload_n 1, 1) := by decide +kernel
theorem d_Model_isAlone_12 : decode b_Model_isAlone 12 = .ok (.iconst 1, 1) := by decide +kernel
theorem d_Model_isAlone_13 : decode b_Model_isAlone 13 = .ok (.iadd, 1) := by decide +kernel
theorem d_Model_isAlone_14 : decode b_Model_isAlone 14 = .ok (.baload, 1) := by decide +kernel
theorem d_Model_isAlone_15 : decode b_Model_isAlone 15 = .ok (.invokestatic 419, 3) := by decide +kernel
theorem d_Model_isAlone_18 : decode b_Model_isAlone 18 = .ok (.ifCond .ne 5, 3) := by decide +kernel
theorem d_Model_isAlone_21 : decode b_Model_isAlone 21 = .ok (.iconst 1, 1) := by decide +kernel
theorem d_Model_isAlone_22 : decode b_Model_isAlone 22 = .ok (.ireturn, 1) := by decide +kernel
theorem d_Model_isAlone_23 : decode b_Model_isAlone 23 = .ok (.iload_n 1, 1) := by decide +kernel
theorem d_Model_isAlone_24 : decode b_Model_isAlone 24 = .ok (.ifCond .ne 5, 3) := by decide +kernel
theorem d_Model_isAlone_27 : decode b_Model_isAlone 27 = .ok (.iconst 0, 1) := by decide +kernel
theorem d_Model_isAlone_28 : decode b_Model_isAlone 28 = .ok (.ireturn, 1) := by decide +kernel
theorem d_Model_isAlone_29 : decode b_Model_isAlone 29 = .ok (.aload_n 0, 1) := by decide +kernel
theorem d_Model_isAlone_30 : decode b_Model_isAlone 30 = .ok (.getfield 261, 3) := by decide +kernel
theorem d_Model_isAlone_33 : decode b_Model_isAlone 33 = .ok (.iload_n 1, 1) := by decide +kernel
theorem d_Model_isAlone_34 : decode b_Model_isAlone 34 = .ok (.iconst 1, 1) := by decide +kernel
theorem d_Model_isAlone_35 : decode b_Model_isAlone 35 = .ok (.isub, 1) := by decide +kernel
theorem d_Model_isAlone_36 : decode b_Model_isAlone 36 = .ok (.baload, 1) := by decide +kernel
theorem d_Model_isAlone_37 : decode b_Model_isAlone 37 = .ok (.istore_n 3, 1) := by decide +kernel
theorem d_Model_isAlone_38 : decode b_Model_isAlone 38 = .ok (.iload_n 3, 1) := by decide +kernel
theorem d_Model_isAlone_39 : decode b_Model_isAlone 39 = .ok (.invokestatic 422, 3) := by decide +kernel
theorem d_Model_isAlone_42 : decode b_Model_isAlone 42 = .ok (.ifCond .ne 26, 3) := by decide +kernel
theorem d_Model_isAlone_45 : decode b_Model_isAlone 45 = .ok (.iload_n 3, 1) := by decide +kernel
theorem d_Model_isAlone_46 : decode b_Model_isAlone 46 = .ok (.bipush 91, 2) := by decide +kernel
theorem d_Model_isAlone_48 : decode b_Model_isAlone 48 = .ok (.if_icmp .eq 20, 3) := by decide +kernel
theorem d_Model_isAlone_51 : decode b_Model_isAlone 51 = .ok (.iload_n 3, 1) := by decide +kernel
theorem d_Model_isAlone_52 : decode b_Model_isAlone 52 = .ok (.bipush 40, 2) := by decide +kernel
theorem d_Model_isAlone_54 : decode b_Model_isAlone 54 = .ok (.if_icmp .eq 14, 3) := by decide +kernel
theorem d_Model_isAlone_57 : decode b_Model_isAlone 57 = .ok (.iload_n 3, 1) := by decide +kernel
theorem d_Model_isAlone_58 : decode b_Model_isAlone 58 = .ok (.invokestatic 412, 3) := by decide +kernel
theorem d_Model_isAlone_61 : decode b_Model_isAlone 61 = .ok (.ifCond .ne 7, 3) := by decide +kernel
theorem d_Model_isAlone_64 : decode b_Model_isAlone 64 = .ok (.iconst 1, 1) := by decide +kernel
theorem d_Model_isAlone_65 : decode b_Model_isAlone 65 = .ok (.goto 4, 3) := by decide +kernel
theorem d_Model_isAlone_68 : decode b_Model_isAlone 68 = .ok (.iconst 0, 1) := by decide +kernel
theorem d_Model_isAlone_69 : decode b_Model_isAlone 69 = .ok (.ireturn, 1) := by decide +kernel
theorem lk_Model_419 : Cond.methodLink "TurtleWorldModel" 419 ⟨"TurtleWorldModel", "isDigit", "(I)Z"⟩ ∈ tw_T := tw_i10 14 (by decide +kernel) (by decide +kernel)
theorem hd_Model_isDigit : y_Model_isDigit.cls ≠ "java/lang/invoke/MethodHandle" ∧ y_Model_isDigit.cls ≠ "java/lang/invoke/VarHandle" ∧ (parseMethodDescriptor y_Model_isDigit.desc).map (fun d => d.parameters.length) = some 1 := by decide +kernel
theorem st_Model_isDigit : Cond.static ⟨"TurtleWorldModel", "isDigit", "(I)Z"⟩ ∈ tw_T := tw_i10 15 (by decide +kernel) (by decide +kernel)
theorem lk_Model_422 : Cond.methodLink "TurtleWorldModel" 422 ⟨"TurtleWorldModel", "isBlank", "(I)Z"⟩ ∈ tw_T := tw_i10 17 (by decide +kernel) (by decide +kernel)
theorem hd_Model_isBlank : y_Model_isBlank.cls ≠ "java/lang/invoke/MethodHandle" ∧ y_Model_isBlank.cls ≠ "java/lang/invoke/VarHandle" ∧ (parseMethodDescriptor y_Model_isBlank.desc).map (fun d => d.parameters.length) = some 1 := by decide +kernel
theorem st_Model_isBlank : Cond.static ⟨"TurtleWorldModel", "isBlank", "(I)Z"⟩ ∈ tw_T := tw_i10 18 (by decide +kernel) (by decide +kernel)
theorem hd_Model_kindOf : y_Model_kindOf.cls ≠ "java/lang/invoke/MethodHandle" ∧ y_Model_kindOf.cls ≠ "java/lang/invoke/VarHandle" ∧ (parseMethodDescriptor y_Model_kindOf.desc).map (fun d => d.parameters.length) = some 1 := by decide +kernel
theorem hd_Model_sameLetters : y_Model_sameLetters.cls ≠ "java/lang/invoke/MethodHandle" ∧ y_Model_sameLetters.cls ≠ "java/lang/invoke/VarHandle" ∧ (parseMethodDescriptor y_Model_sameLetters.desc).map (fun d => d.parameters.length) = some 4 := by decide +kernel
theorem hd_Model_turtleRow : y_Model_turtleRow.cls ≠ "java/lang/invoke/MethodHandle" ∧ y_Model_turtleRow.cls ≠ "java/lang/invoke/VarHandle" ∧ (parseMethodDescriptor y_Model_turtleRow.desc).map (fun d => d.parameters.length) = some 1 := by decide +kernel
theorem hd_Model_what : y_Model_what.cls ≠ "java/lang/invoke/MethodHandle" ∧ y_Model_what.cls ≠ "java/lang/invoke/VarHandle" ∧ (parseMethodDescriptor y_Model_what.desc).map (fun d => d.parameters.length) = some 1 := by decide +kernel
theorem hd_Model_newWord : y_Model_newWord.cls ≠ "java/lang/invoke/MethodHandle" ∧ y_Model_newWord.cls ≠ "java/lang/invoke/VarHandle" ∧ (parseMethodDescriptor y_Model_newWord.desc).map (fun d => d.parameters.length) = some 2 := by decide +kernel
theorem hd_Model_wordValue : y_Model_wordValue.cls ≠ "java/lang/invoke/MethodHandle" ∧ y_Model_wordValue.cls ≠ "java/lang/invoke/VarHandle" ∧ (parseMethodDescriptor y_Model_wordValue.desc).map (fun d => d.parameters.length) = some 1 := by decide +kernel
theorem d_Model_quoted_0 : decode b_Model_quoted 0 = .ok (.aload_n 0, 1) := by decide +kernel
theorem d_Model_quoted_1 : decode b_Model_quoted 1 = .ok (.getfield 22, 3) := by decide +kernel
theorem d_Model_quoted_4 : decode b_Model_quoted 4 = .ok (.iload_n 1, 1) := by decide +kernel
theorem d_Model_quoted_5 : decode b_Model_quoted 5 = .ok (.iaload, 1) := by decide +kernel
theorem d_Model_quoted_6 : decode b_Model_quoted 6 = .ok (.iconst 1, 1) := by decide +kernel
theorem d_Model_quoted_7 : decode b_Model_quoted 7 = .ok (.if_icmp .ne 9, 3) := by decide +kernel
theorem d_Model_quoted_10 : decode b_Model_quoted 10 = .ok (.aload_n 0, 1) := by decide +kernel
theorem d_Model_quoted_11 : decode b_Model_quoted 11 = .ok (.iconst 3, 1) := by decide +kernel
theorem d_Model_quoted_12 : decode b_Model_quoted 12 = .ok (.invokevirtual 596, 3) := by decide +kernel
theorem d_Model_quoted_15 : decode b_Model_quoted 15 = .ok (.lreturn, 1) := by decide +kernel
theorem d_Model_quoted_16 : decode b_Model_quoted 16 = .ok (.aload_n 0, 1) := by decide +kernel
theorem d_Model_quoted_17 : decode b_Model_quoted 17 = .ok (.getfield 28, 3) := by decide +kernel
theorem d_Model_quoted_20 : decode b_Model_quoted 20 = .ok (.iload_n 1, 1) := by decide +kernel
theorem d_Model_quoted_21 : decode b_Model_quoted 21 = .ok (.laload, 1) := by decide +kernel
theorem d_Model_quoted_22 : decode b_Model_quoted 22 = .ok (.ldc2_w 7, 3) := by decide +kernel
theorem d_Model_quoted_25 : decode b_Model_quoted 25 = .ok (.lcmp, 1) := by decide +kernel
theorem d_Model_quoted_26 : decode b_Model_quoted 26 = .ok (.ifCond .ne 84, 3) := by decide +kernel
theorem d_Model_quoted_29 : decode b_Model_quoted 29 = .ok (.aload_n 0, 1) := by decide +kernel
theorem d_Model_quoted_30 : decode b_Model_quoted 30 = .ok (.aload_n 0, 1) := by decide +kernel
theorem d_Model_quoted_31 : decode b_Model_quoted 31 = .ok (.getfield 67, 3) := by decide +kernel
theorem d_Model_quoted_34 : decode b_Model_quoted 34 = .ok (.aload_n 0, 1) := by decide +kernel
theorem d_Model_quoted_35 : decode b_Model_quoted 35 = .ok (.getfield 15, 3) := by decide +kernel
theorem d_Model_quoted_38 : decode b_Model_quoted 38 = .ok (.iload_n 1, 1) := by decide +kernel
theorem d_Model_quoted_39 : decode b_Model_quoted 39 = .ok (.iaload, 1) := by decide +kernel
theorem d_Model_quoted_40 : decode b_Model_quoted 40 = .ok (.iconst 1, 1) := by decide +kernel
theorem d_Model_quoted_41 : decode b_Model_quoted 41 = .ok (.iadd, 1) := by decide +kernel
theorem d_Model_quoted_42 : decode b_Model_quoted 42 = .ok (.aload_n 0, 1) := by decide +kernel
theorem d_Model_quoted_43 : decode b_Model_quoted 43 = .ok (.getfield 22, 3) := by decide +kernel
theorem d_Model_quoted_46 : decode b_Model_quoted 46 = .ok (.iload_n 1, 1) := by decide +kernel
theorem d_Model_quoted_47 : decode b_Model_quoted 47 = .ok (.iaload, 1) := by decide +kernel
theorem d_Model_quoted_48 : decode b_Model_quoted 48 = .ok (.iconst 1, 1) := by decide +kernel
theorem d_Model_quoted_49 : decode b_Model_quoted 49 = .ok (.isub, 1) := by decide +kernel
theorem d_Model_quoted_50 : decode b_Model_quoted 50 = .ok (.invokevirtual 447, 3) := by decide +kernel
theorem d_Model_quoted_53 : decode b_Model_quoted 53 = .ok (.istore_n 2, 1) := by decide +kernel
theorem d_Model_quoted_54 : decode b_Model_quoted 54 = .ok (.iload_n 2, 1) := by decide +kernel
theorem d_Model_quoted_55 : decode b_Model_quoted 55 = .ok (.iconst 2, 1) := by decide +kernel
theorem d_Model_quoted_56 : decode b_Model_quoted 56 = .ok (.if_icmp .ne 10, 3) := by decide +kernel
theorem d_Model_quoted_59 : decode b_Model_quoted 59 = .ok (.aload_n 0, 1) := by decide +kernel
theorem d_Model_quoted_60 : decode b_Model_quoted 60 = .ok (.bipush 9, 2) := by decide +kernel
theorem d_Model_quoted_62 : decode b_Model_quoted 62 = .ok (.invokevirtual 596, 3) := by decide +kernel
theorem d_Model_quoted_65 : decode b_Model_quoted 65 = .ok (.lreturn, 1) := by decide +kernel
theorem d_Model_quoted_66 : decode b_Model_quoted 66 = .ok (.aload_n 0, 1) := by decide +kernel
theorem d_Model_quoted_67 : decode b_Model_quoted 67 = .ok (.getfield 28, 3) := by decide +kernel
theorem d_Model_quoted_70 : decode b_Model_quoted 70 = .ok (.iload_n 1, 1) := by decide +kernel
theorem d_Model_quoted_71 : decode b_Model_quoted 71 = .ok (.iload_n 2, 1) := by decide +kernel
theorem d_Model_quoted_72 : decode b_Model_quoted 72 = .ok (.iconst 1, 1) := by decide +kernel
theorem d_Model_quoted_73 : decode b_Model_quoted 73 = .ok (.if_icmp .ne 13, 3) := by decide +kernel
theorem d_Model_quoted_76 : decode b_Model_quoted 76 = .ok (.aload_n 0, 1) := by decide +kernel
theorem d_Model_quoted_77 : decode b_Model_quoted 77 = .ok (.getfield 146, 3) := by decide +kernel
theorem d_Model_quoted_80 : decode b_Model_quoted 80 = .ok (.invokestatic 451, 3) := by decide +kernel
theorem d_Model_quoted_83 : decode b_Model_quoted 83 = .ok (.goto 26, 3) := by decide +kernel
theorem d_Model_quoted_86 : decode b_Model_quoted 86 = .ok (.aload_n 0, 1) := by decide +kernel
theorem d_Model_quoted_87 : decode b_Model_quoted 87 = .ok (.aload_n 0, 1) := by decide +kernel
theorem d_Model_quoted_88 : decode b_Model_quoted 88 = .ok (.getfield 15, 3) := by decide +kernel
theorem d_Model_quoted_91 : decode b_Model_quoted 91 = .ok (.iload_n 1, 1) := by decide +kernel
theorem d_Model_quoted_92 : decode b_Model_quoted 92 = .ok (.iaload, 1) := by decide +kernel
theorem d_Model_quoted_93 : decode b_Model_quoted 93 = .ok (.iconst 1, 1) := by decide +kernel
theorem d_Model_quoted_94 : decode b_Model_quoted 94 = .ok (.iadd, 1) := by decide +kernel
theorem d_Model_quoted_95 : decode b_Model_quoted 95 = .ok (.aload_n 0, 1) := by decide +kernel
theorem d_Model_quoted_96 : decode b_Model_quoted 96 = .ok (.getfield 22, 3) := by decide +kernel
theorem d_Model_quoted_99 : decode b_Model_quoted 99 = .ok (.iload_n 1, 1) := by decide +kernel
theorem d_Model_quoted_100 : decode b_Model_quoted 100 = .ok (.iaload, 1) := by decide +kernel
theorem d_Model_quoted_101 : decode b_Model_quoted 101 = .ok (.iconst 1, 1) := by decide +kernel
theorem d_Model_quoted_102 : decode b_Model_quoted 102 = .ok (.isub, 1) := by decide +kernel
theorem d_Model_quoted_103 : decode b_Model_quoted 103 = .ok (.invokevirtual 454, 3) := by decide +kernel
theorem d_Model_quoted_106 : decode b_Model_quoted 106 = .ok (.invokestatic 396, 3) := by decide +kernel
theorem d_Model_quoted_109 : decode b_Model_quoted 109 = .ok (.lastore, 1) := by decide +kernel
theorem d_Model_quoted_110 : decode b_Model_quoted 110 = .ok (.aload_n 0, 1) := by decide +kernel
theorem d_Model_quoted_111 : decode b_Model_quoted 111 = .ok (.getfield 28, 3) := by decide +kernel
theorem d_Model_quoted_114 : decode b_Model_quoted 114 = .ok (.iload_n 1, 1) := by decide +kernel
theorem d_Model_quoted_115 : decode b_Model_quoted 115 = .ok (.laload, 1) := by decide +kernel
theorem d_Model_quoted_116 : decode b_Model_quoted 116 = .ok (.lreturn, 1) := by decide +kernel
theorem lk_Model_447 : Cond.methodLink "TurtleWorldModel" 447 ⟨"TurtleWorldModel", "asNumber", "([BII)I"⟩ ∈ tw_T := tw_i10 20 (by decide +kernel) (by decide +kernel)
theorem d_Model_asNumber_0 : decode b_Model_asNumber 0 = .ok (.iload_n 3, 1) := by decide +kernel
theorem d_Model_asNumber_1 : decode b_Model_asNumber 1 = .ok (.ifCond .le 15, 3) := by decide +kernel
theorem d_Model_asNumber_4 : decode b_Model_asNumber 4 = .ok (.aload_n 1, 1) := by decide +kernel
theorem d_Model_asNumber_5 : decode b_Model_asNumber 5 = .ok (.iload_n 2, 1) := by decide +kernel
theorem d_Model_asNumber_6 : decode b_Model_asNumber 6 = .ok (.baload, 1) := by decide +kernel
theorem d_Model_asNumber_7 : decode b_Model_asNumber 7 = .ok (.bipush 45, 2) := by decide +kernel
theorem d_Model_asNumber_9 : decode b_Model_asNumber 9 = .ok (.if_icmp .ne 7, 3) := by decide +kernel
theorem d_Model_asNumber_12 : decode b_Model_asNumber 12 = .ok (.iconst 1, 1) := by decide +kernel
theorem d_Model_asNumber_13 : decode b_Model_asNumber 13 = .ok (.goto 4, 3) := by decide +kernel
theorem d_Model_asNumber_16 : decode b_Model_asNumber 16 = .ok (.iconst 0, 1) := by decide +kernel
theorem d_Model_asNumber_17 : decode b_Model_asNumber 17 = .ok (.istore 4, 2) := by decide +kernel
theorem d_Model_asNumber_19 : decode b_Model_asNumber 19 = .ok (.iload 4, 2) := by decide +kernel
theorem d_Model_asNumber_21 : decode b_Model_asNumber 21 = .ok (.iload_n 3, 1) := by decide +kernel
theorem d_Model_asNumber_22 : decode b_Model_asNumber 22 = .ok (.if_icmp .ne 5, 3) := by decide +kernel
theorem d_Model_asNumber_25 : decode b_Model_asNumber 25 = .ok (.iconst 0, 1) := by decide +kernel
theorem d_Model_asNumber_26 : decode b_Model_asNumber 26 = .ok (.ireturn, 1) := by decide +kernel
theorem d_Model_asNumber_27 : decode b_Model_asNumber 27 = .ok (.lconst 0, 1) := by decide +kernel
theorem d_Model_asNumber_28 : decode b_Model_asNumber 28 = .ok (.lstore 5, 2) := by decide +kernel
theorem d_Model_asNumber_30 : decode b_Model_asNumber 30 = .ok (.iload 4, 2) := by decide +kernel
theorem d_Model_asNumber_32 : decode b_Model_asNumber 32 = .ok (.istore 7, 2) := by decide +kernel
theorem d_Model_asNumber_34 : decode b_Model_asNumber 34 = .ok (.iload 7, 2) := by decide +kernel
theorem d_Model_asNumber_36 : decode b_Model_asNumber 36 = .ok (.iload_n 3, 1) := by decide +kernel
theorem d_Model_asNumber_37 : decode b_Model_asNumber 37 = .ok (.if_icmp .ge 55, 3) := by decide +kernel
theorem d_Model_asNumber_40 : decode b_Model_asNumber 40 = .ok (.aload_n 1, 1) := by decide +kernel
theorem d_Model_asNumber_41 : decode b_Model_asNumber 41 = .ok (.iload_n 2, 1) := by decide +kernel
theorem d_Model_asNumber_42 : decode b_Model_asNumber 42 = .ok (.iload 7, 2) := by decide +kernel
theorem d_Model_asNumber_44 : decode b_Model_asNumber 44 = .ok (.iadd, 1) := by decide +kernel
theorem d_Model_asNumber_45 : decode b_Model_asNumber 45 = .ok (.baload, 1) := by decide +kernel
theorem d_Model_asNumber_46 : decode b_Model_asNumber 46 = .ok (.istore 8, 2) := by decide +kernel
theorem d_Model_asNumber_48 : decode b_Model_asNumber 48 = .ok (.iload 8, 2) := by decide +kernel
theorem d_Model_asNumber_50 : decode b_Model_asNumber 50 = .ok (.bipush 48, 2) := by decide +kernel
theorem d_Model_asNumber_52 : decode b_Model_asNumber 52 = .ok (.if_icmp .lt 10, 3) := by decide +kernel
theorem d_Model_asNumber_55 : decode b_Model_asNumber 55 = .ok (.iload 8, 2) := by decide +kernel
theorem d_Model_asNumber_57 : decode b_Model_asNumber 57 = .ok (.bipush 57, 2) := by decide +kernel
theorem d_Model_asNumber_59 : decode b_Model_asNumber 59 = .ok (.if_icmp .le 5, 3) := by decide +kernel
theorem d_Model_asNumber_62 : decode b_Model_asNumber 62 = .ok (.iconst 0, 1) := by decide +kernel
theorem d_Model_asNumber_63 : decode b_Model_asNumber 63 = .ok (.ireturn, 1) := by decide +kernel
theorem d_Model_asNumber_64 : decode b_Model_asNumber 64 = .ok (.lload 5, 2) := by decide +kernel
theorem d_Model_asNumber_66 : decode b_Model_asNumber 66 = .ok (.ldc2_w 134, 3) := by decide +kernel
theorem d_Model_asNumber_69 : decode b_Model_asNumber 69 = .ok (.lmul, 1) := by decide +kernel
theorem d_Model_asNumber_70 : decode b_Model_asNumber 70 = .ok (.iload 8, 2) := by decide +kernel
theorem d_Model_asNumber_72 : decode b_Model_asNumber 72 = .ok (.i2l, 1) := by decide +kernel
theorem d_Model_asNumber_73 : decode b_Model_asNumber 73 = .ok (.ladd, 1) := by decide +kernel
theorem d_Model_asNumber_74 : decode b_Model_asNumber 74 = .ok (.ldc2_w 136, 3) := by decide +kernel
theorem d_Model_asNumber_77 : decode b_Model_asNumber 77 = .ok (.lsub, 1) := by decide +kernel
theorem d_Model_asNumber_78 : decode b_Model_asNumber 78 = .ok (.ldc2_w 138, 3) := by decide +kernel
theorem d_Model_asNumber_81 : decode b_Model_asNumber 81 = .ok (.invokestatic 140, 3) := by decide +kernel
theorem d_Model_asNumber_84 : decode b_Model_asNumber 84 = .ok (.lstore 5, 2) := by decide +kernel
theorem d_Model_asNumber_86 : decode b_Model_asNumber 86 = .ok (.iinc 7 1, 3) := by decide +kernel
theorem d_Model_asNumber_89 : decode b_Model_asNumber 89 = .ok (.goto (-55), 3) := by decide +kernel
theorem d_Model_asNumber_92 : decode b_Model_asNumber 92 = .ok (.lload 5, 2) := by decide +kernel
theorem d_Model_asNumber_94 : decode b_Model_asNumber 94 = .ok (.ldc2_w 144, 3) := by decide +kernel
theorem d_Model_asNumber_97 : decode b_Model_asNumber 97 = .ok (.lcmp, 1) := by decide +kernel
theorem d_Model_asNumber_98 : decode b_Model_asNumber 98 = .ok (.ifCond .le 5, 3) := by decide +kernel
theorem d_Model_asNumber_101 : decode b_Model_asNumber 101 = .ok (.iconst 2, 1) := by decide +kernel
theorem d_Model_asNumber_102 : decode b_Model_asNumber 102 = .ok (.ireturn, 1) := by decide +kernel
theorem d_Model_asNumber_103 : decode b_Model_asNumber 103 = .ok (.aload_n 0, 1) := by decide +kernel
theorem d_Model_asNumber_104 : decode b_Model_asNumber 104 = .ok (.iload 4, 2) := by decide +kernel
theorem d_Model_asNumber_106 : decode b_Model_asNumber 106 = .ok (.iconst 1, 1) := by decide +kernel
theorem d_Model_asNumber_107 : decode b_Model_asNumber 107 = .ok (.if_icmp .ne 9, 3) := by decide +kernel
theorem d_Model_asNumber_110 : decode b_Model_asNumber 110 = .ok (.lload 5, 2) := by decide +kernel
theorem d_Model_asNumber_112 : decode b_Model_asNumber 112 = .ok (.lneg, 1) := by decide +kernel
theorem d_Model_asNumber_113 : decode b_Model_asNumber 113 = .ok (.goto 5, 3) := by decide +kernel
theorem d_Model_asNumber_116 : decode b_Model_asNumber 116 = .ok (.lload 5, 2) := by decide +kernel
theorem d_Model_asNumber_118 : decode b_Model_asNumber 118 = .ok (.l2i, 1) := by decide +kernel
theorem d_Model_asNumber_119 : decode b_Model_asNumber 119 = .ok (.putfield 146, 3) := by decide +kernel
theorem d_Model_asNumber_122 : decode b_Model_asNumber 122 = .ok (.iconst 1, 1) := by decide +kernel
theorem d_Model_asNumber_123 : decode b_Model_asNumber 123 = .ok (.ireturn, 1) := by decide +kernel
theorem lk_Model_144 : Cond.constantLong "TurtleWorldModel" 144 1000000000 ∈ tw_T := tw_i10 28 (by decide +kernel) (by decide +kernel)
theorem lk_Model_146 : Cond.fieldLink "TurtleWorldModel" 146 "TurtleWorldModel" "got" "I" ∈ tw_T := tw_i8 106 (by decide +kernel) (by decide +kernel)
theorem lk_Model_134 : Cond.constantLong "TurtleWorldModel" 134 10 ∈ tw_T := tw_i10 24 (by decide +kernel) (by decide +kernel)
theorem lk_Model_136 : Cond.constantLong "TurtleWorldModel" 136 48 ∈ tw_T := tw_i10 25 (by decide +kernel) (by decide +kernel)
theorem lk_Model_138 : Cond.constantLong "TurtleWorldModel" 138 10000000000 ∈ tw_T := tw_i10 26 (by decide +kernel) (by decide +kernel)
theorem hd_Model_asNumber : y_Model_asNumber.cls ≠ "java/lang/invoke/MethodHandle" ∧ y_Model_asNumber.cls ≠ "java/lang/invoke/VarHandle" ∧ (parseMethodDescriptor y_Model_asNumber.desc).map (fun d => d.parameters.length) = some 3 := by decide +kernel
theorem in_Model_asNumber : Cond.instanceMethod ⟨"TurtleWorldModel", "asNumber", "([BII)I"⟩ ∈ tw_T := tw_i10 22 (by decide +kernel) (by decide +kernel)
theorem sel_Model_asNumber : Cond.selects "TurtleWorldModel" ⟨"TurtleWorldModel", "asNumber", "([BII)I"⟩ ⟨"TurtleWorldModel", "asNumber", "([BII)I"⟩ ∈ tw_T := tw_inS 92 (by decide +kernel) (by decide +kernel)
theorem lk_Model_451 : Cond.methodLink "TurtleWorldModel" 451 ⟨"TurtleWorldModel", "number", "(I)J"⟩ ∈ tw_T := tw_i10 30 (by decide +kernel) (by decide +kernel)
theorem hd_Model_number : y_Model_number.cls ≠ "java/lang/invoke/MethodHandle" ∧ y_Model_number.cls ≠ "java/lang/invoke/VarHandle" ∧ (parseMethodDescriptor y_Model_number.desc).map (fun d => d.parameters.length) = some 1 := by decide +kernel
theorem st_Model_number : Cond.static ⟨"TurtleWorldModel", "number", "(I)J"⟩ ∈ tw_T := tw_i10 31 (by decide +kernel) (by decide +kernel)
theorem hd_Model_fails : y_Model_fails.cls ≠ "java/lang/invoke/MethodHandle" ∧ y_Model_fails.cls ≠ "java/lang/invoke/VarHandle" ∧ (parseMethodDescriptor y_Model_fails.desc).map (fun d => d.parameters.length) = some 1 := by decide +kernel
def m_Model_isBeyond (n : Nat) (v0 : Int32) : Option (Int32) := if ((1000000 : Int32)) < v0 then some 1 else if ((-1000000 : Int32)) ≤ v0 then some 0 else some 1
set_option maxHeartbeats 4000000 in
set_option maxRecDepth 100000 in
theorem x_Model_isBeyond (l : Launch) (sz : Nat) (n : Nat) {v0 : Int32} {r2 : Int32} (hm : m_Model_isBeyond n v0 = some r2) : Met l y_Model_isBeyond w_Model_isBeyond ({ frames := 0, cells := 0, slots := 0, locals := 0 } : Room) (va_Pc [.int v0] (xE0 sz)) (va_Qi (xR r2) xT (xN sz)) 0 0 (xN sz) := by
  refine Met.ofW (cc := b_Model_isBeyond) (maxL := 1) (ret := (some .boolean)) (by decide) rfl ?_
  intro p e s m args below meth c s₁ B hml hv
  obtain ⟨rfl, hsz⟩ := hv
  have hx := B.exec
  have hb := B.bytes
  have hr := B.returns
  have hts := atoms_spec (ws := w_Model_isBeyond) B.pre
  have htt : ∀ w ∈ tw_T, w.before _ s = true := fun w h => hts w (List.mem_cons_of_mem _ h)
  have hown : s.vm.findClass R_Model = some m.cls := findClass_of_methodNamed B.named
  have hlocks := B.notSynchronized
  subst hsz
  generalize hAe : xN s.heap.size = A
  have hA : ∀ q : Nat, s.heap.size ≤ q → A q := fun q h => by rw [← hAe]; exact Or.inr h
  have hS : va_S A s.heap s.heap [] := va_S.rf
  have hl := lv_entry ([.int v0]) (n := 1) (Nat.le_of_ble_eq_true rfl)
  rw [lg_entry_eq]
  generalize (lg_sl ([.int v0]) ++ List.replicate (1 - (lg_sl ([.int v0])).length) Slot.unset).toArray = ls at hl ⊢
  have hl : lv_has ls 1 [(0, .int v0)] := hl
  rw [m_Model_isBeyond] at hm
  refine lv_iload_n hx hb d_Model_isBeyond_0 rfl (lv_at hl 0 rfl) ?_
  refine lv_ldcw (v := 1000000) hx hb hown (htt _ lk_Model_833) d_Model_isBeyond_1 ?_
  refine lv_icmp_gt (tgt := 14) hx hb d_Model_isBeyond_4 (by decide) (fun c_1 => ?_) (fun c_1 => ?_)
  · replace hm := if_t c_1 hm
    refine lv_iconst (v := 1) hx hb d_Model_isBeyond_14 (by decide) ?_
    refine lv_goto (tgt := 19) hx hb d_Model_isBeyond_15 (by decide) ?_
    have e3 := re1 hm
    exact W.zret hx hb hr (by decide) (fun t9 ht hW => ⟨⟨_, (), rfl, e3.symm, trivial⟩, hS.F ht⟩) hS.2.2 d_Model_isBeyond_19
  · replace hm := if_f c_1 hm
    refine lv_iload_n hx hb d_Model_isBeyond_7 rfl (lv_at hl 0 rfl) ?_
    refine lv_ldcw (v := (-1000000)) hx hb hown (htt _ lk_Model_834) d_Model_isBeyond_8 ?_
    refine lv_icmp_ge (tgt := 18) hx hb d_Model_isBeyond_11 (by decide) (fun c_2 => ?_) (fun c_2 => ?_)
    · replace hm := if_t c_2 hm
      refine lv_iconst (v := 0) hx hb d_Model_isBeyond_18 (by decide) ?_
      have e3 := re1 hm
      exact W.zret hx hb hr (by decide) (fun t9 ht hW => ⟨⟨_, (), rfl, e3.symm, trivial⟩, hS.F ht⟩) hS.2.2 d_Model_isBeyond_19
    · replace hm := if_f c_2 hm
      refine lv_iconst (v := 1) hx hb d_Model_isBeyond_14 (by decide) ?_
      refine lv_goto (tgt := 19) hx hb d_Model_isBeyond_15 (by decide) ?_
      have e3 := re1 hm
      exact W.zret hx hb hr (by decide) (fun t9 ht hW => ⟨⟨_, (), rfl, e3.symm, trivial⟩, hS.F ht⟩) hS.2.2 d_Model_isBeyond_19

def m_Model_sign_b16 (n : Nat) (v0 : Int64) : Option (Int32) := if ((lg_cmp v0 0)) ≤ ((0 : Int32)) then some ((-1)) else some 1
set_option maxHeartbeats 4000000 in
set_option maxRecDepth 100000 in
theorem lb_Model_sign_16 (l : Launch) (n : Nat) {p : Program} {e : Env} {s : State} {m : MethodId} {args : Array Value} {below : List Frame} {meth : Method} {c : Code} {A : Nat → Prop} (hx : p.tables.exec = Jvm.exec) (hb : c.code = b_Model_sign) (hml : c.maxLocals = 8) (hown : s.vm.findClass R_Model = some m.cls) (hts : ∀ w ∈ w_Model_sign, w.before args s = true) (hA : ∀ q : Nat, s.heap.size ≤ q → A q) (hr : meth.sig.returnType = (some .int)) (hlocks : meth.locks = false) {r2 : Int32} (v0 : Int64) (hm : m_Model_sign_b16 n v0 = some r2) : ∀ (H : Heap) (locs : List Loc) (ls : Array Slot), va_S A s.heap H locs → lv_has ls 8 [(0, .long v0)] → W p l e ({ frames := 1, cells := 0, slots := 0, locals := 23 } : Room) s m args below meth c H locs 0 0 (MQ below (va_Qi (xR r2) xT A) args s 0 0 A) (F0 m 16 ls []) := by
  have htt : ∀ w ∈ tw_T, w.before _ s = true := fun w h => hts w (List.mem_cons_of_mem _ h)
  intro H locs ls hS hl
  rw [m_Model_sign_b16] at hm
  refine lv_lload_n hx hb d_Model_sign_16 rfl (lv_at hl 0 rfl) ?_
  refine lv_lconst (v := 0) hx hb d_Model_sign_17 (by decide) ?_
  refine W.lcmp hx hb d_Model_sign_18 ?_
  refine lv_if_le (tgt := 26) hx hb d_Model_sign_19 (by decide) (fun c_1 => ?_) (fun c_1 => ?_)
  · replace hm := if_t c_1 hm
    refine lv_iconst (v := -1) hx hb d_Model_sign_26 (by decide) ?_
    have e3 := re1 hm
    exact W.iret hx hb hr (fun t9 ht hW => ⟨⟨_, (), rfl, e3.symm, trivial⟩, hS.F ht⟩) hS.2.2 d_Model_sign_27
  · replace hm := if_f c_1 hm
    refine lv_iconst (v := 1) hx hb d_Model_sign_22 (by decide) ?_
    refine lv_goto (tgt := 27) hx hb d_Model_sign_23 (by decide) ?_
    have e3 := re1 hm
    exact W.iret hx hb hr (fun t9 ht hW => ⟨⟨_, (), rfl, e3.symm, trivial⟩, hS.F ht⟩) hS.2.2 d_Model_sign_27
def m_Model_sign_b67 (n : Nat) (v4 : Int64) (s0 : Int64) (s1 : Int64) : Option (Int32) := ob1 (s1 * s0 : Int64) (fun x_1 => ob0 (m_Long_compare n (v4 + x_1) (0 : Int64)) (fun r_3 => some r_3))
set_option maxHeartbeats 4000000 in
set_option maxRecDepth 100000 in
theorem lb_Model_sign_67 (l : Launch) (n : Nat) {p : Program} {e : Env} {s : State} {m : MethodId} {args : Array Value} {below : List Frame} {meth : Method} {c : Code} {A : Nat → Prop} (hx : p.tables.exec = Jvm.exec) (hb : c.code = b_Model_sign) (hml : c.maxLocals = 8) (hown : s.vm.findClass R_Model = some m.cls) (hts : ∀ w ∈ w_Model_sign, w.before args s = true) (hA : ∀ q : Nat, s.heap.size ≤ q → A q) (hr : meth.sig.returnType = (some .int)) (hlocks : meth.locks = false) {r2 : Int32} (v4 : Int64) (s0 : Int64) (s1 : Int64) (hm : m_Model_sign_b67 n v4 s0 s1 = some r2) : ∀ (H : Heap) (locs : List Loc) (ls : Array Slot), va_S A s.heap H locs → lv_has ls 8 [(4, .long v4)] → W p l e ({ frames := 1, cells := 0, slots := 0, locals := 23 } : Room) s m args below meth c H locs 0 0 (MQ below (va_Qi (xR r2) xT A) args s 0 0 A) (F0 m 67 ls [.long s0, .long s1]) := by
  have htt : ∀ w ∈ tw_T, w.before _ s = true := fun w h => hts w (List.mem_cons_of_mem _ h)
  intro H locs ls hS hl
  rw [m_Model_sign_b67] at hm
  refine lv_lmul hx hb d_Model_sign_67 ?_
  refine lv_topl (fun x_1 ex_1 => ?_)
  replace hm := ob1_at ex_1 hm
  refine lv_lstore (lv' := [(6, .long x_1), (4, .long v4)]) hx hb d_Model_sign_68 hl (by decide) rfl (fun ls hl => ?_)
  refine lv_lload hx hb d_Model_sign_70 (lv_at hl 1 rfl) ?_
  refine lv_lload hx hb d_Model_sign_72 (lv_at hl 0 rfl) ?_
  refine lv_ladd hx hb d_Model_sign_74 ?_
  refine lv_lconst (v := 0) hx hb d_Model_sign_75 (by decide) ?_
  obtain ⟨r_3, h_2, hm⟩ := ob0_some hm
  have hFc := x_free0 hS hA
  refine va_calli (va_runS (As := [.long (v4 + x_1), .long 0]) (rest := []) ⟨hx, hb, hml, hown, hts⟩ (x_Long_compare l H.size n h_2) (va_cwS 2 hts (tw_GS tw_cons cw_Long_compare lk_Model_807 st_Long_compare ini_Long) rfl rfl rfl hd_Long_compare ⟨Nat.le_of_ble_eq_true rfl, Nat.le_of_ble_eq_true rfl⟩) xpS0 rfl rfl hl.1 rfl (lv_room (Nat.le_of_ble_eq_true rfl)) d_Model_sign_76 ⟨Nat.le_of_ble_eq_true rfl, Nat.le_of_ble_eq_true rfl⟩) hS (fun q _ h => hFc q h) hFc (fun r9 u9 t9 H locs ht hvm e9 hB hz1 hk1 hS => ?_)
  have e9 : r_3 = r9 := e9
  subst e9
  clear hFc hk1 hz1 hvm hB ht
  have e3 := re1 hm
  exact W.iret hx hb hr (fun t9 ht hW => ⟨⟨_, (), rfl, e3.symm, trivial⟩, hS.F ht⟩) hS.2.2 d_Model_sign_79
def m_Model_sign_b44 (n : Nat) (v2 : Int64) (s0 : Int64) (s1 : Int64) : Option (Int32) := ob1 (s1 * s0 : Int64) (fun x_1 => if ((0 : Int32)) ≤ ((lg_cmp v2 0)) then m_Model_sign_b67 n x_1 (1 : Int64) ((3 * v2) * v2) else m_Model_sign_b67 n x_1 (-1 : Int64) ((3 * v2) * v2))
set_option maxHeartbeats 4000000 in
set_option maxRecDepth 100000 in
theorem lb_Model_sign_44 (l : Launch) (n : Nat) {p : Program} {e : Env} {s : State} {m : MethodId} {args : Array Value} {below : List Frame} {meth : Method} {c : Code} {A : Nat → Prop} (hx : p.tables.exec = Jvm.exec) (hb : c.code = b_Model_sign) (hml : c.maxLocals = 8) (hown : s.vm.findClass R_Model = some m.cls) (hts : ∀ w ∈ w_Model_sign, w.before args s = true) (hA : ∀ q : Nat, s.heap.size ≤ q → A q) (hr : meth.sig.returnType = (some .int)) (hlocks : meth.locks = false) {r2 : Int32} (v2 : Int64) (s0 : Int64) (s1 : Int64) (hm : m_Model_sign_b44 n v2 s0 s1 = some r2) : ∀ (H : Heap) (locs : List Loc) (ls : Array Slot), va_S A s.heap H locs → lv_has ls 8 [(2, .long v2)] → W p l e ({ frames := 1, cells := 0, slots := 0, locals := 23 } : Room) s m args below meth c H locs 0 0 (MQ below (va_Qi (xR r2) xT A) args s 0 0 A) (F0 m 44 ls [.long s0, .long s1]) := by
  have htt : ∀ w ∈ tw_T, w.before _ s = true := fun w h => hts w (List.mem_cons_of_mem _ h)
  intro H locs ls hS hl
  rw [m_Model_sign_b44] at hm
  refine lv_lmul hx hb d_Model_sign_44 ?_
  refine lv_topl (fun x_1 ex_1 => ?_)
  replace hm := ob1_at ex_1 hm
  refine lv_lstore (lv' := [(4, .long x_1), (2, .long v2)]) hx hb d_Model_sign_45 hl (by decide) rfl (fun ls hl => ?_)
  refine lv_ldc2 (v := 3) hx hb hown (htt _ lk_Model_7) d_Model_sign_47 ?_
  refine lv_lload_n hx hb d_Model_sign_50 rfl (lv_at hl 1 rfl) ?_
  refine lv_lmul hx hb d_Model_sign_51 ?_
  refine lv_lload_n hx hb d_Model_sign_52 rfl (lv_at hl 1 rfl) ?_
  refine lv_lmul hx hb d_Model_sign_53 ?_
  refine lv_lload_n hx hb d_Model_sign_54 rfl (lv_at hl 1 rfl) ?_
  refine lv_lconst (v := 0) hx hb d_Model_sign_55 (by decide) ?_
  refine W.lcmp hx hb d_Model_sign_56 ?_
  refine lv_if_ge (tgt := 66) hx hb d_Model_sign_57 (by decide) (fun c_2 => ?_) (fun c_2 => ?_)
  · replace hm := if_t c_2 hm
    refine lv_lconst (v := 1) hx hb d_Model_sign_66 (by decide) ?_
    exact lb_Model_sign_67 l n hx hb hml hown hts hA hr hlocks _ _ _ hm _ _ _ hS (lv_sub hl [0] rfl)
  · replace hm := if_f c_2 hm
    refine lv_ldc2 (v := (-1)) hx hb hown (htt _ lk_Model_805) d_Model_sign_60 ?_
    refine lv_goto (tgt := 67) hx hb d_Model_sign_63 (by decide) ?_
    exact lb_Model_sign_67 l n hx hb hml hown hts hA hr hlocks _ _ _ hm _ _ _ hS (lv_sub hl [0] rfl)
def m_Model_sign (n : Nat) (v0 : Int64) (v2 : Int64) : Option (Int32) := if ((0 : Int32)) < ((lg_cmp v0 20000000)) then m_Model_sign_b16 n v0 else if ((0 : Int32)) ≤ ((lg_cmp v0 ((-20000000)))) then if ((0 : Int32)) ≤ ((lg_cmp v0 0)) then m_Model_sign_b44 n v2 (1 : Int64) (v0 * v0) else m_Model_sign_b44 n v2 (-1 : Int64) (v0 * v0) else m_Model_sign_b16 n v0
set_option maxHeartbeats 4000000 in
set_option maxRecDepth 100000 in
theorem x_Model_sign (l : Launch) (sz : Nat) (n : Nat) {v0 : Int64} {v2 : Int64} {r2 : Int32} (hm : m_Model_sign n v0 v2 = some r2) : Met l y_Model_sign w_Model_sign ({ frames := 1, cells := 0, slots := 0, locals := 23 } : Room) (va_Pc [.long v0, .long v2] (xE0 sz)) (va_Qi (xR r2) xT (xN sz)) 0 0 (xN sz) := by
  refine Met.ofW (cc := b_Model_sign) (maxL := 8) (ret := (some .int)) (by decide) rfl ?_
  intro p e s m args below meth c s₁ B hml hv
  obtain ⟨rfl, hsz⟩ := hv
  have hx := B.exec
  have hb := B.bytes
  have hr := B.returns
  have hts := atoms_spec (ws := w_Model_sign) B.pre
  have htt : ∀ w ∈ tw_T, w.before _ s = true := fun w h => hts w (List.mem_cons_of_mem _ h)
  have hown : s.vm.findClass R_Model = some m.cls := findClass_of_methodNamed B.named
  have hlocks := B.notSynchronized
  subst hsz
  generalize hAe : xN s.heap.size = A
  have hA : ∀ q : Nat, s.heap.size ≤ q → A q := fun q h => by rw [← hAe]; exact Or.inr h
  have hS : va_S A s.heap s.heap [] := va_S.rf
  have hl := lv_entry ([.long v0, .long v2]) (n := 8) (Nat.le_of_ble_eq_true rfl)
  rw [lg_entry_eq]
  generalize (lg_sl ([.long v0, .long v2]) ++ List.replicate (8 - (lg_sl ([.long v0, .long v2])).length) Slot.unset).toArray = ls at hl ⊢
  have hl : lv_has ls 8 [(0, .long v0), (2, .long v2)] := hl
  rw [m_Model_sign] at hm
  refine lv_lload_n hx hb d_Model_sign_0 rfl (lv_at hl 0 rfl) ?_
  refine lv_ldc2 (v := 20000000) hx hb hown (htt _ lk_Model_801) d_Model_sign_1 ?_
  refine W.lcmp hx hb d_Model_sign_4 ?_
  refine lv_if_gt (tgt := 16) hx hb d_Model_sign_5 (by decide) (fun c_1 => ?_) (fun c_1 => ?_)
  · replace hm := if_t c_1 hm
    exact lb_Model_sign_16 l n hx hb hml hown hts hA hr hlocks _ hm _ _ _ hS (lv_sub hl [0] rfl)
  · replace hm := if_f c_1 hm
    refine lv_lload_n hx hb d_Model_sign_8 rfl (lv_at hl 0 rfl) ?_
    refine lv_ldc2 (v := (-20000000)) hx hb hown (htt _ lk_Model_803) d_Model_sign_9 ?_
    refine W.lcmp hx hb d_Model_sign_12 ?_
    refine lv_if_ge (tgt := 28) hx hb d_Model_sign_13 (by decide) (fun c_2 => ?_) (fun c_2 => ?_)
    · replace hm := if_t c_2 hm
      refine lv_lload_n hx hb d_Model_sign_28 rfl (lv_at hl 0 rfl) ?_
      refine lv_lload_n hx hb d_Model_sign_29 rfl (lv_at hl 0 rfl) ?_
      refine lv_lmul hx hb d_Model_sign_30 ?_
      refine lv_lload_n hx hb d_Model_sign_31 rfl (lv_at hl 0 rfl) ?_
      refine lv_lconst (v := 0) hx hb d_Model_sign_32 (by decide) ?_
      refine W.lcmp hx hb d_Model_sign_33 ?_
      refine lv_if_ge (tgt := 43) hx hb d_Model_sign_34 (by decide) (fun c_3 => ?_) (fun c_3 => ?_)
      · replace hm := if_t c_3 hm
        refine lv_lconst (v := 1) hx hb d_Model_sign_43 (by decide) ?_
        exact lb_Model_sign_44 l n hx hb hml hown hts hA hr hlocks _ _ _ hm _ _ _ hS (lv_sub hl [1] rfl)
      · replace hm := if_f c_3 hm
        refine lv_ldc2 (v := (-1)) hx hb hown (htt _ lk_Model_805) d_Model_sign_37 ?_
        refine lv_goto (tgt := 44) hx hb d_Model_sign_40 (by decide) ?_
        exact lb_Model_sign_44 l n hx hb hml hown hts hA hr hlocks _ _ _ hm _ _ _ hS (lv_sub hl [1] rfl)
    · replace hm := if_f c_2 hm
      exact lb_Model_sign_16 l n hx hb hml hown hts hA hr hlocks _ hm _ _ _ hS (lv_sub hl [0] rfl)

def m_Model_root_b44 (n : Nat) (rc_7 : Int64 → Int64 → Int64 → Option (Int64)) (v0 : Int64) (v2 : Int64) (v4 : Int64) : Option (Int64) := ob1 (v4 >>> ((1 : Int32).toInt64 &&& 63) : Int64) (fun x_1 => rc_7 v0 v2 x_1)
set_option maxHeartbeats 4000000 in
set_option maxRecDepth 100000 in
theorem lb_Model_root_44 (l : Launch) (n : Nat) {p : Program} {e : Env} {s : State} {m : MethodId} {args : Array Value} {below : List Frame} {meth : Method} {c : Code} {A : Nat → Prop} (hx : p.tables.exec = Jvm.exec) (hb : c.code = b_Model_root) (hml : c.maxLocals = 6) (hown : s.vm.findClass R_Model = some m.cls) (hts : ∀ w ∈ w_Model_root, w.before args s = true) (hA : ∀ q : Nat, s.heap.size ≤ q → A q) (hr : meth.sig.returnType = (some .long)) (hlocks : meth.locks = false) {r2 : Int64} (rc_7 : Int64 → Int64 → Int64 → Option (Int64)) (Hrc_7 : ∀ (v0 : Int64) (v2 : Int64) (v4 : Int64), rc_7 v0 v2 v4 = some r2 → ∀ (H : Heap) (locs : List Loc) (ls : Array Slot), va_S A s.heap H locs → lv_has ls 6 [(0, .long v0), (2, .long v2), (4, .long v4)] → W p l e ({ frames := 0, cells := 0, slots := 0, locals := 0 } : Room) s m args below meth c H locs 0 0 (MQ below (va_Ql (xR r2) xT A) args s 0 0 A) (F0 m 7 ls [])) (v0 : Int64) (v2 : Int64) (v4 : Int64) (hm : m_Model_root_b44 n rc_7 v0 v2 v4 = some r2) : ∀ (H : Heap) (locs : List Loc) (ls : Array Slot), va_S A s.heap H locs → lv_has ls 6 [(0, .long v0), (2, .long v2), (4, .long v4)] → W p l e ({ frames := 0, cells := 0, slots := 0, locals := 0 } : Room) s m args below meth c H locs 0 0 (MQ below (va_Ql (xR r2) xT A) args s 0 0 A) (F0 m 44 ls []) := by
  have htt : ∀ w ∈ tw_T, w.before _ s = true := fun w h => hts w (List.mem_cons_of_mem _ h)
  intro H locs ls hS hl
  rw [m_Model_root_b44] at hm
  refine lv_lload hx hb d_Model_root_44 (lv_at hl 2 rfl) ?_
  refine lv_iconst (v := 1) hx hb d_Model_root_46 (by decide) ?_
  refine lv_lshr hx hb d_Model_root_47 rfl ?_
  refine lv_topl (fun x_1 ex_1 => ?_)
  replace hm := ob1_at ex_1 hm
  refine lv_lstore (lv' := [(4, .long x_1), (0, .long v0), (2, .long v2)]) hx hb d_Model_root_48 hl (by decide) rfl (fun ls hl => ?_)
  refine lv_goto (tgt := 7) hx hb d_Model_root_50 (by decide) ?_
  exact Hrc_7 _ _ _ hm _ _ _ hS (lv_sub hl [1, 2, 0] rfl)
def m_Model_root_b7 (n : Nat) : Nat → Int64 → Int64 → Int64 → Option (Int64)
  | 0, _, _, _ => none
  | f + 1, v0, v2, v4 => if ((lg_cmp v4 0)) ≤ ((0 : Int32)) then some v2 else if ((0 : Int32)) < ((lg_cmp (v2 + v4) 3000000000)) then m_Model_root_b44 n (m_Model_root_b7 n f) v0 v2 v4 else if ((0 : Int32)) < ((lg_cmp ((v2 + v4) * (v2 + v4)) v0)) then m_Model_root_b44 n (m_Model_root_b7 n f) v0 v2 v4 else ob1 (v2 + v4 : Int64) (fun x_4 => m_Model_root_b44 n (m_Model_root_b7 n f) v0 x_4 v4)
set_option maxHeartbeats 4000000 in
set_option maxRecDepth 100000 in
theorem lb_Model_root_7 (l : Launch) (n : Nat) {p : Program} {e : Env} {s : State} {m : MethodId} {args : Array Value} {below : List Frame} {meth : Method} {c : Code} {A : Nat → Prop} (hx : p.tables.exec = Jvm.exec) (hb : c.code = b_Model_root) (hml : c.maxLocals = 6) (hown : s.vm.findClass R_Model = some m.cls) (hts : ∀ w ∈ w_Model_root, w.before args s = true) (hA : ∀ q : Nat, s.heap.size ≤ q → A q) (hr : meth.sig.returnType = (some .long)) (hlocks : meth.locks = false) {r2 : Int64} : ∀ (f : Nat) (v0 : Int64) (v2 : Int64) (v4 : Int64), m_Model_root_b7 n f v0 v2 v4 = some r2 → ∀ (H : Heap) (locs : List Loc) (ls : Array Slot), va_S A s.heap H locs → lv_has ls 6 [(0, .long v0), (2, .long v2), (4, .long v4)] → W p l e ({ frames := 0, cells := 0, slots := 0, locals := 0 } : Room) s m args below meth c H locs 0 0 (MQ below (va_Ql (xR r2) xT A) args s 0 0 A) (F0 m 7 ls []) := by
  have htt : ∀ w ∈ tw_T, w.before _ s = true := fun w h => hts w (List.mem_cons_of_mem _ h)
  intro f
  induction f with
  | zero =>
    intro v0 v2 v4 hm
    rw [m_Model_root_b7] at hm
    cases hm
  | succ f ih =>
    intro v0 v2 v4 hm H locs ls hS hl
    rw [m_Model_root_b7] at hm
    refine lv_lload hx hb d_Model_root_7 (lv_at hl 2 rfl) ?_
    refine lv_lconst (v := 0) hx hb d_Model_root_9 (by decide) ?_
    refine W.lcmp hx hb d_Model_root_10 ?_
    refine lv_if_le (tgt := 53) hx hb d_Model_root_11 (by decide) (fun c_1 => ?_) (fun c_1 => ?_)
    · replace hm := if_t c_1 hm
      refine lv_lload_n hx hb d_Model_root_53 rfl (lv_at hl 1 rfl) ?_
      have e3 := re1 hm
      exact W.lret hx hb hr (fun t9 ht hW => ⟨⟨_, (), rfl, e3.symm, trivial⟩, hS.F ht⟩) hS.2.2 d_Model_root_54
    · replace hm := if_f c_1 hm
      refine lv_lload_n hx hb d_Model_root_14 rfl (lv_at hl 1 rfl) ?_
      refine lv_lload hx hb d_Model_root_15 (lv_at hl 2 rfl) ?_
      refine lv_ladd hx hb d_Model_root_17 ?_
      refine lv_ldc2 (v := 3000000000) hx hb hown (htt _ lk_Model_793) d_Model_root_18 ?_
      refine W.lcmp hx hb d_Model_root_21 ?_
      refine lv_if_gt (tgt := 44) hx hb d_Model_root_22 (by decide) (fun c_2 => ?_) (fun c_2 => ?_)
      · replace hm := if_t c_2 hm
        exact lb_Model_root_44 l n hx hb hml hown hts hA hr hlocks (m_Model_root_b7 n f) ih _ _ _ hm _ _ _ hS (lv_sub hl [0, 1, 2] rfl)
      · replace hm := if_f c_2 hm
        refine lv_lload_n hx hb d_Model_root_25 rfl (lv_at hl 1 rfl) ?_
        refine lv_lload hx hb d_Model_root_26 (lv_at hl 2 rfl) ?_
        refine lv_ladd hx hb d_Model_root_28 ?_
        refine lv_lload_n hx hb d_Model_root_29 rfl (lv_at hl 1 rfl) ?_
        refine lv_lload hx hb d_Model_root_30 (lv_at hl 2 rfl) ?_
        refine lv_ladd hx hb d_Model_root_32 ?_
        refine lv_lmul hx hb d_Model_root_33 ?_
        refine lv_lload_n hx hb d_Model_root_34 rfl (lv_at hl 0 rfl) ?_
        refine W.lcmp hx hb d_Model_root_35 ?_
        refine lv_if_gt (tgt := 44) hx hb d_Model_root_36 (by decide) (fun c_3 => ?_) (fun c_3 => ?_)
        · replace hm := if_t c_3 hm
          exact lb_Model_root_44 l n hx hb hml hown hts hA hr hlocks (m_Model_root_b7 n f) ih _ _ _ hm _ _ _ hS (lv_sub hl [0, 1, 2] rfl)
        · replace hm := if_f c_3 hm
          refine lv_lload_n hx hb d_Model_root_39 rfl (lv_at hl 1 rfl) ?_
          refine lv_lload hx hb d_Model_root_40 (lv_at hl 2 rfl) ?_
          refine lv_ladd hx hb d_Model_root_42 ?_
          refine lv_topl (fun x_4 ex_4 => ?_)
          replace hm := ob1_at ex_4 hm
          refine lv_lstore_n (lv' := [(2, .long x_4), (0, .long v0), (4, .long v4)]) hx hb d_Model_root_43 rfl hl (by decide) rfl (fun ls hl => ?_)
          exact lb_Model_root_44 l n hx hb hml hown hts hA hr hlocks (m_Model_root_b7 n f) ih _ _ _ hm _ _ _ hS (lv_sub hl [1, 0, 2] rfl)
def m_Model_root (n : Nat) (v0 : Int64) : Option (Int64) := m_Model_root_b7 n n v0 (0 : Int64) (1073741824 : Int64)
set_option maxHeartbeats 4000000 in
set_option maxRecDepth 100000 in
theorem x_Model_root (l : Launch) (sz : Nat) (n : Nat) {v0 : Int64} {r2 : Int64} (hm : m_Model_root n v0 = some r2) : Met l y_Model_root w_Model_root ({ frames := 0, cells := 0, slots := 0, locals := 0 } : Room) (va_Pc [.long v0] (xE0 sz)) (va_Ql (xR r2) xT (xN sz)) 0 0 (xN sz) := by
  refine Met.ofW (cc := b_Model_root) (maxL := 6) (ret := (some .long)) (by decide) rfl ?_
  intro p e s m args below meth c s₁ B hml hv
  obtain ⟨rfl, hsz⟩ := hv
  have hx := B.exec
  have hb := B.bytes
  have hr := B.returns
  have hts := atoms_spec (ws := w_Model_root) B.pre
  have htt : ∀ w ∈ tw_T, w.before _ s = true := fun w h => hts w (List.mem_cons_of_mem _ h)
  have hown : s.vm.findClass R_Model = some m.cls := findClass_of_methodNamed B.named
  have hlocks := B.notSynchronized
  subst hsz
  generalize hAe : xN s.heap.size = A
  have hA : ∀ q : Nat, s.heap.size ≤ q → A q := fun q h => by rw [← hAe]; exact Or.inr h
  have hS : va_S A s.heap s.heap [] := va_S.rf
  have hl := lv_entry ([.long v0]) (n := 6) (Nat.le_of_ble_eq_true rfl)
  rw [lg_entry_eq]
  generalize (lg_sl ([.long v0]) ++ List.replicate (6 - (lg_sl ([.long v0])).length) Slot.unset).toArray = ls at hl ⊢
  have hl : lv_has ls 6 [(0, .long v0)] := hl
  rw [m_Model_root] at hm
  refine lv_lconst (v := 0) hx hb d_Model_root_0 (by decide) ?_
  refine lv_lstore_n (lv' := [(2, .long 0), (0, .long v0)]) hx hb d_Model_root_1 rfl hl (by decide) rfl (fun ls hl => ?_)
  refine lv_ldc2 (v := 1073741824) hx hb hown (htt _ lk_Model_791) d_Model_root_2 ?_
  refine lv_lstore (lv' := [(4, .long 1073741824), (2, .long 0), (0, .long v0)]) hx hb d_Model_root_5 hl (by decide) rfl (fun ls hl => ?_)
  exact lb_Model_root_7 l n hx hb hml hown hts hA hr hlocks n _ _ _ hm _ _ _ hS (lv_sub hl [2, 1, 0] rfl)

def m_Model_set (n : Nat) (i : Nat → Int32) (j : Nat → Int64) (a : Nat → Nat → Int32) (b : Nat → Nat → Int64) (v1 : Int32) (v2 : Int32) (v3 : Int32) (v4 : Int32) (v5 : Int32) : Option ((Nat → Int32) × (Nat → Int64) × (Nat → Nat → Int32) × (Nat → Nat → Int64) × Int32) := ck v1 8 (ob1 (sv a 37 v1.toNatClampNeg v2 : Nat → Nat → Int32) (fun a_2 => ck v1 8 (ob1 (sv a_2 38 v1.toNatClampNeg v3 : Nat → Nat → Int32) (fun a_4 => ck v1 8 (ob1 (sv a_4 39 v1.toNatClampNeg v4 : Nat → Nat → Int32) (fun a_6 => ck v1 8 (ob1 (sv a_6 40 v1.toNatClampNeg v5 : Nat → Nat → Int32) (fun a_8 => some (i, j, a_8, b, (0 : Int32))))))))))
set_option maxHeartbeats 4000000 in
set_option maxRecDepth 100000 in
theorem x_Model_set (l : Launch) (dC : Nat → ClassId) (dI : Nat → Nat → Nat) (cI cJ cB : ClassId) (adK adV adA : Nat → Nat) (h : Nat) (v : Nat → Nat) (sz : Nat) (n : Nat) {i : Nat → Int32} {j : Nat → Int64} {a : Nat → Nat → Int32} {b : Nat → Nat → Int64} {v1 : Int32} {v2 : Int32} {v3 : Int32} {v4 : Int32} {v5 : Int32} {i2 : Nat → Int32} {j2 : Nat → Int64} {a2 : Nat → Nat → Int32} {b2 : Nat → Nat → Int64} {r2 : Int32} (hm : m_Model_set n i j a b v1 v2 v3 v4 v5 = some (i2, j2, a2, b2, r2)) : Met l y_Model_set w_Model_set ({ frames := 0, cells := 0, slots := 0, locals := 0 } : Room) (va_Pc [.ref h, .int v1, .int v2, .int v3, .int v4, .int v5] (yE dC dI cI cJ cB adK adV adA h v i j a b sz)) (va_Qv xV (yB dC dI cI cJ cB h v i2 j2 a2 b2 (va_A (MW cI cJ cB h v i j a b) sz)) (va_A (MW cI cJ cB h v i j a b) sz)) 0 0 ((va_A (MW cI cJ cB h v i j a b) sz)) := by
  refine Met.ofW (cc := b_Model_set) (maxL := 6) (ret := none) (by decide) rfl ?_
  intro p e s m args below meth c s₁ B hml hv
  obtain ⟨rfl, hsz, hP, hK, hE, hD0⟩ := hv
  have hx := B.exec
  have hb := B.bytes
  have hr := B.returns
  have hts := atoms_spec (ws := w_Model_set) B.pre
  have htt : ∀ w ∈ tw_T, w.before _ s = true := fun w h => hts w (List.mem_cons_of_mem _ h)
  have hown : s.vm.findClass R_Model = some m.cls := findClass_of_methodNamed B.named
  have hlocks := B.notSynchronized
  subst hsz
  have hD := hD0.self (sz := s.heap.size)
  generalize hAe : (va_A (MW cI cJ cB h v i j a b) s.heap.size) = A at hD hE ⊢
  have hA : ∀ q : Nat, s.heap.size ≤ q → A q := fun q h => by rw [← hAe]; exact Or.inr h
  have hS : va_S A s.heap s.heap [] := va_S.rf
  have hl := lv_entry ([.ref h, .int v1, .int v2, .int v3, .int v4, .int v5]) (n := 6) (Nat.le_of_ble_eq_true rfl)
  rw [lg_entry_eq]
  generalize (lg_sl ([.ref h, .int v1, .int v2, .int v3, .int v4, .int v5]) ++ List.replicate (6 - (lg_sl ([.ref h, .int v1, .int v2, .int v3, .int v4, .int v5])).length) Slot.unset).toArray = ls at hl ⊢
  have hl : lv_has ls 6 [(0, .ref h), (1, .int v1), (2, .int v2), (3, .int v3), (4, .int v4), (5, .int v5)] := hl
  rw [m_Model_set] at hm
  refine lv_aload_n hx hb d_Model_set_0 rfl (lv_at hl 0 rfl) ?_
  refine va_get (D := (dC, dI)) (ci := 12) (v := .ref ((v 37))) (C := R_Model) (T := F_Model) (N := 127) hx hb htt iw_Model hown hK hP 0 yo_12 rfl 37 (Nat.le_of_ble_eq_true rfl) (htt _ lk_Model_201) (fun _ h9 => h9) yg_37 d_Model_set_1 ?_
  refine lv_iload_n hx hb d_Model_set_4 rfl (lv_at hl 1 rfl) ?_
  refine lv_iload_n hx hb d_Model_set_5 rfl (lv_at hl 2 rfl) ?_
  obtain ⟨h_1, hm⟩ := ck_some hm
  refine va_iast hx hb hK hP hD hS 29 0 ya_37 rfl h_1 d_Model_set_6 (fun H locs hP hD hS => ?_)
  obtain ⟨a_2, ea_2⟩ : ∃ y9 : Nat → Nat → Int32, y9 = sv a 37 v1.toNatClampNeg v2 := ⟨_, rfl⟩
  replace hm := ob1_at ea_2 hm
  obtain ⟨hP, hD⟩ := yv_37 ea_2 hP hD
  refine lv_aload_n hx hb d_Model_set_7 rfl (lv_at hl 0 rfl) ?_
  refine va_get (D := (dC, dI)) (ci := 12) (v := .ref ((v 38))) (C := R_Model) (T := F_Model) (N := 127) hx hb htt iw_Model hown hK hP 0 yo_12 rfl 38 (Nat.le_of_ble_eq_true rfl) (htt _ lk_Model_204) (fun _ h9 => h9) yg_38 d_Model_set_8 ?_
  refine lv_iload_n hx hb d_Model_set_11 rfl (lv_at hl 1 rfl) ?_
  refine lv_iload_n hx hb d_Model_set_12 rfl (lv_at hl 3 rfl) ?_
  obtain ⟨h_3, hm⟩ := ck_some hm
  refine va_iast hx hb hK hP hD hS 30 0 ya_38 rfl h_3 d_Model_set_13 (fun H locs hP hD hS => ?_)
  obtain ⟨a_4, ea_4⟩ : ∃ y9 : Nat → Nat → Int32, y9 = sv a_2 38 v1.toNatClampNeg v3 := ⟨_, rfl⟩
  replace hm := ob1_at ea_4 hm
  obtain ⟨hP, hD⟩ := yv_38 ea_4 hP hD
  refine lv_aload_n hx hb d_Model_set_14 rfl (lv_at hl 0 rfl) ?_
  refine va_get (D := (dC, dI)) (ci := 12) (v := .ref ((v 39))) (C := R_Model) (T := F_Model) (N := 127) hx hb htt iw_Model hown hK hP 0 yo_12 rfl 39 (Nat.le_of_ble_eq_true rfl) (htt _ lk_Model_207) (fun _ h9 => h9) yg_39 d_Model_set_15 ?_
  refine lv_iload_n hx hb d_Model_set_18 rfl (lv_at hl 1 rfl) ?_
  refine lv_iload hx hb d_Model_set_19 (lv_at hl 4 rfl) ?_
  obtain ⟨h_5, hm⟩ := ck_some hm
  refine va_iast hx hb hK hP hD hS 31 0 ya_39 rfl h_5 d_Model_set_21 (fun H locs hP hD hS => ?_)
  obtain ⟨a_6, ea_6⟩ : ∃ y9 : Nat → Nat → Int32, y9 = sv a_4 39 v1.toNatClampNeg v4 := ⟨_, rfl⟩
  replace hm := ob1_at ea_6 hm
  obtain ⟨hP, hD⟩ := yv_39 ea_6 hP hD
  refine lv_aload_n hx hb d_Model_set_22 rfl (lv_at hl 0 rfl) ?_
  refine va_get (D := (dC, dI)) (ci := 12) (v := .ref ((v 40))) (C := R_Model) (T := F_Model) (N := 127) hx hb htt iw_Model hown hK hP 0 yo_12 rfl 40 (Nat.le_of_ble_eq_true rfl) (htt _ lk_Model_210) (fun _ h9 => h9) yg_40 d_Model_set_23 ?_
  refine lv_iload_n hx hb d_Model_set_26 rfl (lv_at hl 1 rfl) ?_
  refine lv_iload hx hb d_Model_set_27 (lv_at hl 5 rfl) ?_
  obtain ⟨h_7, hm⟩ := ck_some hm
  refine va_iast hx hb hK hP hD hS 32 0 ya_40 rfl h_7 d_Model_set_29 (fun H locs hP hD hS => ?_)
  obtain ⟨a_8, ea_8⟩ : ∃ y9 : Nat → Nat → Int32, y9 = sv a_6 40 v1.toNatClampNeg v5 := ⟨_, rfl⟩
  replace hm := ob1_at ea_8 hm
  obtain ⟨hP, hD⟩ := yv_40 ea_8 hP hD
  obtain ⟨e1i, e1j, e1a, e1b, e3⟩ := re4m hm
  obtain ⟨hP, hD⟩ := y_eq e1i e1j e1a e1b hP hD
  exact W.vret hx hb hr (fun t9 ht hW => ⟨⟨(), rfl, trivial, by rw [ht]; exact hP, hD⟩, hS.F ht⟩) hS.2.2 d_Model_set_30

def m_Model_dotAt (n : Nat) (i : Nat → Int32) (j : Nat → Int64) (a : Nat → Nat → Int32) (b : Nat → Nat → Int64) (v1 : Int32) (v2 : Int32) : Option (Int32) := if v1 < ((-32 : Int32)) then some ((-1)) else if ((31 : Int32)) < v1 then some ((-1)) else if v2 < ((-32 : Int32)) then some ((-1)) else if v2 ≤ ((31 : Int32)) then ck ((((64 * (v2 + 32)) + v1) + 32)) 4096 (some (a 44 (((64 * (v2 + 32)) + v1) + 32).toNatClampNeg)) else some ((-1))
set_option maxHeartbeats 4000000 in
set_option maxRecDepth 100000 in
theorem x_Model_dotAt (l : Launch) (dC : Nat → ClassId) (dI : Nat → Nat → Nat) (cI cJ cB : ClassId) (adK adV adA : Nat → Nat) (h : Nat) (v : Nat → Nat) (sz : Nat) (n : Nat) {i : Nat → Int32} {j : Nat → Int64} {a : Nat → Nat → Int32} {b : Nat → Nat → Int64} {v1 : Int32} {v2 : Int32} {r2 : Int32} (hm : m_Model_dotAt n i j a b v1 v2 = some r2) : Met l y_Model_dotAt w_Model_dotAt ({ frames := 0, cells := 0, slots := 0, locals := 0 } : Room) (va_Pc [.ref h, .int v1, .int v2] (yEr dC dI cI cJ cB adK adV adA h v i j a b sz)) (va_Qi (xR r2) xT (xN sz)) 0 0 (xN sz) := by
  refine Met.ofW (cc := b_Model_dotAt) (maxL := 3) (ret := (some .int)) (by decide) rfl ?_
  intro p e s m args below meth c s₁ B hml hv
  obtain ⟨rfl, hsz, hP, hK, hE⟩ := hv
  have hx := B.exec
  have hb := B.bytes
  have hr := B.returns
  have hts := atoms_spec (ws := w_Model_dotAt) B.pre
  have htt : ∀ w ∈ tw_T, w.before _ s = true := fun w h => hts w (List.mem_cons_of_mem _ h)
  have hown : s.vm.findClass R_Model = some m.cls := findClass_of_methodNamed B.named
  have hlocks := B.notSynchronized
  subst hsz
  generalize hAe : xN s.heap.size = A at hE ⊢
  have hA : ∀ q : Nat, s.heap.size ≤ q → A q := fun q h => by rw [← hAe]; exact Or.inr h
  have hS : va_S A s.heap s.heap [] := va_S.rf
  have hl := lv_entry ([.ref h, .int v1, .int v2]) (n := 3) (Nat.le_of_ble_eq_true rfl)
  rw [lg_entry_eq]
  generalize (lg_sl ([.ref h, .int v1, .int v2]) ++ List.replicate (3 - (lg_sl ([.ref h, .int v1, .int v2])).length) Slot.unset).toArray = ls at hl ⊢
  have hl : lv_has ls 3 [(0, .ref h), (1, .int v1), (2, .int v2)] := hl
  rw [m_Model_dotAt] at hm
  refine lv_iload_n hx hb d_Model_dotAt_0 rfl (lv_at hl 1 rfl) ?_
  refine lv_bipush (v := -32) hx hb d_Model_dotAt_1 (by decide) ?_
  refine lv_icmp_lt (tgt := 24) hx hb d_Model_dotAt_3 (by decide) (fun c_1 => ?_) (fun c_1 => ?_)
  · replace hm := if_t c_1 hm
    refine lv_iconst (v := -1) hx hb d_Model_dotAt_24 (by decide) ?_
    refine lv_goto (tgt := 45) hx hb d_Model_dotAt_25 (by decide) ?_
    have e3 := re1 hm
    exact W.iret hx hb hr (fun t9 ht hW => ⟨⟨_, (), rfl, e3.symm, trivial⟩, hS.F ht⟩) hS.2.2 d_Model_dotAt_45
  · replace hm := if_f c_1 hm
    refine lv_iload_n hx hb d_Model_dotAt_6 rfl (lv_at hl 1 rfl) ?_
    refine lv_bipush (v := 31) hx hb d_Model_dotAt_7 (by decide) ?_
    refine lv_icmp_gt (tgt := 24) hx hb d_Model_dotAt_9 (by decide) (fun c_2 => ?_) (fun c_2 => ?_)
    · replace hm := if_t c_2 hm
      refine lv_iconst (v := -1) hx hb d_Model_dotAt_24 (by decide) ?_
      refine lv_goto (tgt := 45) hx hb d_Model_dotAt_25 (by decide) ?_
      have e3 := re1 hm
      exact W.iret hx hb hr (fun t9 ht hW => ⟨⟨_, (), rfl, e3.symm, trivial⟩, hS.F ht⟩) hS.2.2 d_Model_dotAt_45
    · replace hm := if_f c_2 hm
      refine lv_iload_n hx hb d_Model_dotAt_12 rfl (lv_at hl 2 rfl) ?_
      refine lv_bipush (v := -32) hx hb d_Model_dotAt_13 (by decide) ?_
      refine lv_icmp_lt (tgt := 24) hx hb d_Model_dotAt_15 (by decide) (fun c_3 => ?_) (fun c_3 => ?_)
      · replace hm := if_t c_3 hm
        refine lv_iconst (v := -1) hx hb d_Model_dotAt_24 (by decide) ?_
        refine lv_goto (tgt := 45) hx hb d_Model_dotAt_25 (by decide) ?_
        have e3 := re1 hm
        exact W.iret hx hb hr (fun t9 ht hW => ⟨⟨_, (), rfl, e3.symm, trivial⟩, hS.F ht⟩) hS.2.2 d_Model_dotAt_45
      · replace hm := if_f c_3 hm
        refine lv_iload_n hx hb d_Model_dotAt_18 rfl (lv_at hl 2 rfl) ?_
        refine lv_bipush (v := 31) hx hb d_Model_dotAt_19 (by decide) ?_
        refine lv_icmp_le (tgt := 28) hx hb d_Model_dotAt_21 (by decide) (fun c_4 => ?_) (fun c_4 => ?_)
        · replace hm := if_t c_4 hm
          refine lv_aload_n hx hb d_Model_dotAt_28 rfl (lv_at hl 0 rfl) ?_
          refine va_get (D := (dC, dI)) (ci := 12) (v := .ref ((v 44))) (C := R_Model) (T := F_Model) (N := 127) hx hb htt iw_Model hown hK hP 0 yo_12 rfl 44 (Nat.le_of_ble_eq_true rfl) (htt _ lk_Model_222) (fun _ h9 => h9) yg_44 d_Model_dotAt_29 ?_
          refine lv_bipush (v := 64) hx hb d_Model_dotAt_32 (by decide) ?_
          refine lv_iload_n hx hb d_Model_dotAt_34 rfl (lv_at hl 2 rfl) ?_
          refine lv_bipush (v := 32) hx hb d_Model_dotAt_35 (by decide) ?_
          refine lv_iadd hx hb d_Model_dotAt_37 ?_
          refine lv_imul hx hb d_Model_dotAt_38 ?_
          refine lv_iload_n hx hb d_Model_dotAt_39 rfl (lv_at hl 1 rfl) ?_
          refine lv_iadd hx hb d_Model_dotAt_40 ?_
          refine lv_bipush (v := 32) hx hb d_Model_dotAt_41 (by decide) ?_
          refine lv_iadd hx hb d_Model_dotAt_43 ?_
          obtain ⟨h_5, hm⟩ := ck_some hm
          refine va_iald hx hb hK hP 36 0 ya_44 rfl h_5 d_Model_dotAt_44 ?_
          have e3 := re1 hm
          exact W.iret hx hb hr (fun t9 ht hW => ⟨⟨_, (), rfl, e3.symm, trivial⟩, hS.F ht⟩) hS.2.2 d_Model_dotAt_45
        · replace hm := if_f c_4 hm
          refine lv_iconst (v := -1) hx hb d_Model_dotAt_24 (by decide) ?_
          refine lv_goto (tgt := 45) hx hb d_Model_dotAt_25 (by decide) ?_
          have e3 := re1 hm
          exact W.iret hx hb hr (fun t9 ht hW => ⟨⟨_, (), rfl, e3.symm, trivial⟩, hS.F ht⟩) hS.2.2 d_Model_dotAt_45

def m_Model_truth (n : Nat) (i : Nat → Int32) (j : Nat → Int64) (a : Nat → Nat → Int32) (b : Nat → Nat → Int64) (v1 : Int32) : Option (Int64) := if v1 = ((0 : Int32)) then some (j 125) else some (j 124)
set_option maxHeartbeats 4000000 in
set_option maxRecDepth 100000 in
theorem x_Model_truth (l : Launch) (dC : Nat → ClassId) (dI : Nat → Nat → Nat) (cI cJ cB : ClassId) (adK adV adA : Nat → Nat) (h : Nat) (v : Nat → Nat) (sz : Nat) (n : Nat) {i : Nat → Int32} {j : Nat → Int64} {a : Nat → Nat → Int32} {b : Nat → Nat → Int64} {v1 : Int32} {r2 : Int64} (hm : m_Model_truth n i j a b v1 = some r2) : Met l y_Model_truth w_Model_truth ({ frames := 0, cells := 0, slots := 0, locals := 0 } : Room) (va_Pc [.ref h, .int v1] (yEr dC dI cI cJ cB adK adV adA h v i j a b sz)) (va_Ql (xR r2) xT (xN sz)) 0 0 (xN sz) := by
  refine Met.ofW (cc := b_Model_truth) (maxL := 2) (ret := (some .long)) (by decide) rfl ?_
  intro p e s m args below meth c s₁ B hml hv
  obtain ⟨rfl, hsz, hP, hK, hE⟩ := hv
  have hx := B.exec
  have hb := B.bytes
  have hr := B.returns
  have hts := atoms_spec (ws := w_Model_truth) B.pre
  have htt : ∀ w ∈ tw_T, w.before _ s = true := fun w h => hts w (List.mem_cons_of_mem _ h)
  have hown : s.vm.findClass R_Model = some m.cls := findClass_of_methodNamed B.named
  have hlocks := B.notSynchronized
  subst hsz
  generalize hAe : xN s.heap.size = A at hE ⊢
  have hA : ∀ q : Nat, s.heap.size ≤ q → A q := fun q h => by rw [← hAe]; exact Or.inr h
  have hS : va_S A s.heap s.heap [] := va_S.rf
  have hl := lv_entry ([.ref h, .int v1]) (n := 2) (Nat.le_of_ble_eq_true rfl)
  rw [lg_entry_eq]
  generalize (lg_sl ([.ref h, .int v1]) ++ List.replicate (2 - (lg_sl ([.ref h, .int v1])).length) Slot.unset).toArray = ls at hl ⊢
  have hl : lv_has ls 2 [(0, .ref h), (1, .int v1)] := hl
  rw [m_Model_truth] at hm
  refine lv_iload_n hx hb d_Model_truth_0 rfl (lv_at hl 1 rfl) ?_
  refine lv_if_eq (tgt := 11) hx hb d_Model_truth_1 (by decide) (fun c_1 => ?_) (fun c_1 => ?_)
  · replace hm := if_t c_1 hm
    refine lv_aload_n hx hb d_Model_truth_11 rfl (lv_at hl 0 rfl) ?_
    refine va_get (D := (dC, dI)) (ci := 12) (v := .long (j 125)) (C := R_Model) (T := F_Model) (N := 127) hx hb htt iw_Model hown hK hP 0 yo_12 rfl 125 (Nat.le_of_ble_eq_true rfl) (htt _ lk_Model_584) (fun _ h9 => h9) yg_125 d_Model_truth_12 ?_
    have e3 := re1 hm
    exact W.lret hx hb hr (fun t9 ht hW => ⟨⟨_, (), rfl, e3.symm, trivial⟩, hS.F ht⟩) hS.2.2 d_Model_truth_15
  · replace hm := if_f c_1 hm
    refine lv_aload_n hx hb d_Model_truth_4 rfl (lv_at hl 0 rfl) ?_
    refine va_get (D := (dC, dI)) (ci := 12) (v := .long (j 124)) (C := R_Model) (T := F_Model) (N := 127) hx hb htt iw_Model hown hK hP 0 yo_12 rfl 124 (Nat.le_of_ble_eq_true rfl) (htt _ lk_Model_579) (fun _ h9 => h9) yg_124 d_Model_truth_5 ?_
    refine lv_goto (tgt := 15) hx hb d_Model_truth_8 (by decide) ?_
    have e3 := re1 hm
    exact W.lret hx hb hr (fun t9 ht hW => ⟨⟨_, (), rfl, e3.symm, trivial⟩, hS.F ht⟩) hS.2.2 d_Model_truth_15

def m_Model_say (n : Nat) (i : Nat → Int32) (j : Nat → Int64) (a : Nat → Nat → Int32) (b : Nat → Nat → Int64) (v1 : Int32) : Option ((Nat → Int32) × (Nat → Int64) × (Nat → Nat → Int32) × (Nat → Nat → Int64) × Int32) := ck ((i 25)) 40000 (ob1 (sv a 24 (i 25).toNatClampNeg (vp_nar .byte v1.toInt8.toInt32) : Nat → Nat → Int32) (fun a_2 => ob1 ((i 25) + 1 : Int32) (fun x_3 => ob1 (upd i 25 x_3 : Nat → Int32) (fun i_4 => some (i_4, j, a_2, b, (0 : Int32))))))
set_option maxHeartbeats 4000000 in
set_option maxRecDepth 100000 in
theorem x_Model_say (l : Launch) (dC : Nat → ClassId) (dI : Nat → Nat → Nat) (cI cJ cB : ClassId) (adK adV adA : Nat → Nat) (h : Nat) (v : Nat → Nat) (sz : Nat) (n : Nat) {i : Nat → Int32} {j : Nat → Int64} {a : Nat → Nat → Int32} {b : Nat → Nat → Int64} {v1 : Int32} {i2 : Nat → Int32} {j2 : Nat → Int64} {a2 : Nat → Nat → Int32} {b2 : Nat → Nat → Int64} {r2 : Int32} (hm : m_Model_say n i j a b v1 = some (i2, j2, a2, b2, r2)) : Met l y_Model_say w_Model_say ({ frames := 0, cells := 0, slots := 0, locals := 0 } : Room) (va_Pc [.ref h, .int v1] (yE dC dI cI cJ cB adK adV adA h v i j a b sz)) (va_Qv xV (yB dC dI cI cJ cB h v i2 j2 a2 b2 (va_A (MW cI cJ cB h v i j a b) sz)) (va_A (MW cI cJ cB h v i j a b) sz)) 0 0 ((va_A (MW cI cJ cB h v i j a b) sz)) := by
  refine Met.ofW (cc := b_Model_say) (maxL := 2) (ret := none) (by decide) rfl ?_
  intro p e s m args below meth c s₁ B hml hv
  obtain ⟨rfl, hsz, hP, hK, hE, hD0⟩ := hv
  have hx := B.exec
  have hb := B.bytes
  have hr := B.returns
  have hts := atoms_spec (ws := w_Model_say) B.pre
  have htt : ∀ w ∈ tw_T, w.before _ s = true := fun w h => hts w (List.mem_cons_of_mem _ h)
  have hown : s.vm.findClass R_Model = some m.cls := findClass_of_methodNamed B.named
  have hlocks := B.notSynchronized
  subst hsz
  have hD := hD0.self (sz := s.heap.size)
  generalize hAe : (va_A (MW cI cJ cB h v i j a b) s.heap.size) = A at hD hE ⊢
  have hA : ∀ q : Nat, s.heap.size ≤ q → A q := fun q h => by rw [← hAe]; exact Or.inr h
  have hS : va_S A s.heap s.heap [] := va_S.rf
  have hl := lv_entry ([.ref h, .int v1]) (n := 2) (Nat.le_of_ble_eq_true rfl)
  rw [lg_entry_eq]
  generalize (lg_sl ([.ref h, .int v1]) ++ List.replicate (2 - (lg_sl ([.ref h, .int v1])).length) Slot.unset).toArray = ls at hl ⊢
  have hl : lv_has ls 2 [(0, .ref h), (1, .int v1)] := hl
  rw [m_Model_say] at hm
  refine lv_aload_n hx hb d_Model_say_0 rfl (lv_at hl 0 rfl) ?_
  refine va_get (D := (dC, dI)) (ci := 12) (v := .ref ((v 24))) (C := R_Model) (T := F_Model) (N := 127) hx hb htt iw_Model hown hK hP 0 yo_12 rfl 24 (Nat.le_of_ble_eq_true rfl) (htt _ lk_Model_105) (fun _ h9 => h9) yg_24 d_Model_say_1 ?_
  refine lv_aload_n hx hb d_Model_say_4 rfl (lv_at hl 0 rfl) ?_
  refine va_get (D := (dC, dI)) (ci := 12) (v := .int (i 25)) (C := R_Model) (T := F_Model) (N := 127) hx hb htt iw_Model hown hK hP 0 yo_12 rfl 25 (Nat.le_of_ble_eq_true rfl) (htt _ lk_Model_108) (fun _ h9 => h9) yg_25 d_Model_say_5 ?_
  refine lv_iload_n hx hb d_Model_say_8 rfl (lv_at hl 1 rfl) ?_
  refine lv_i2b hx hb d_Model_say_9 rfl ?_
  obtain ⟨h_1, hm⟩ := ck_some hm
  refine va_bast hx hb hK hP hD hS 20 2 ya_24 rfl h_1 d_Model_say_10 (fun H locs hP hD hS => ?_)
  obtain ⟨a_2, ea_2⟩ : ∃ y9 : Nat → Nat → Int32, y9 = sv a 24 (i 25).toNatClampNeg (vp_nar .byte v1.toInt8.toInt32) := ⟨_, rfl⟩
  replace hm := ob1_at ea_2 hm
  obtain ⟨hP, hD⟩ := yv_24 ea_2 hP hD
  refine lv_aload_n hx hb d_Model_say_11 rfl (lv_at hl 0 rfl) ?_
  refine lv_dup hx hb d_Model_say_12 rfl ?_
  refine va_get (D := (dC, dI)) (ci := 12) (v := .int (i 25)) (C := R_Model) (T := F_Model) (N := 127) hx hb htt iw_Model hown hK hP 0 yo_12 rfl 25 (Nat.le_of_ble_eq_true rfl) (htt _ lk_Model_108) (fun _ h9 => h9) yg_25 d_Model_say_13 ?_
  refine lv_iconst (v := 1) hx hb d_Model_say_16 (by decide) ?_
  refine lv_iadd hx hb d_Model_say_17 ?_
  refine lv_topi (fun x_3 ex_3 => ?_)
  replace hm := ob1_at ex_3 hm
  refine va_put (D := (dC, dI)) (ci := 12) (v := .int x_3) (ty := .int) (C := R_Model) (T := F_Model) (N := 127) hx hb htt iw_Model t_Model t_Model_ok n_Model hown hK hP hD hS 0 yo_12 rfl 25 (Nat.le_of_ble_eq_true rfl) (htt _ lk_Model_108) (fun _ h9 => h9) rfl (by decide +kernel) rfl rfl yl_25 d_Model_say_18 (fun H locs hP hD hS => ?_)
  obtain ⟨i_4, ei_4⟩ : ∃ y9 : Nat → Int32, y9 = upd i 25 x_3 := ⟨_, rfl⟩
  replace hm := ob1_at ei_4 hm
  obtain ⟨hP, hD⟩ := yw_25 ei_4 hP hD
  obtain ⟨e1i, e1j, e1a, e1b, e3⟩ := re4m hm
  obtain ⟨hP, hD⟩ := y_eq e1i e1j e1a e1b hP hD
  exact W.vret hx hb hr (fun t9 ht hW => ⟨⟨(), rfl, trivial, by rw [ht]; exact hP, hD⟩, hS.F ht⟩) hS.2.2 d_Model_say_21

def m_Model_tellOut (n : Nat) (i : Nat → Int32) (j : Nat → Int64) (a : Nat → Nat → Int32) (b : Nat → Nat → Int64) (v1 : Int32) : Option ((Nat → Int32) × (Nat → Int64) × (Nat → Nat → Int32) × (Nat → Nat → Int64) × Int32) := ck ((((j 48) - (j 48) / 2000 * 2000).toInt32)) 2000 (ob1 (sv a 45 (((j 48) - (j 48) / 2000 * 2000).toInt32).toNatClampNeg (vp_nar .byte v1.toInt8.toInt32) : Nat → Nat → Int32) (fun a_2 => ob1 ((j 48) + 1 : Int64) (fun x_3 => ob1 (vp_updL j 48 x_3 : Nat → Int64) (fun j_4 => some (i, j_4, a_2, b, (0 : Int32))))))
set_option maxHeartbeats 4000000 in
set_option maxRecDepth 100000 in
theorem x_Model_tellOut (l : Launch) (dC : Nat → ClassId) (dI : Nat → Nat → Nat) (cI cJ cB : ClassId) (adK adV adA : Nat → Nat) (h : Nat) (v : Nat → Nat) (sz : Nat) (n : Nat) {i : Nat → Int32} {j : Nat → Int64} {a : Nat → Nat → Int32} {b : Nat → Nat → Int64} {v1 : Int32} {i2 : Nat → Int32} {j2 : Nat → Int64} {a2 : Nat → Nat → Int32} {b2 : Nat → Nat → Int64} {r2 : Int32} (hm : m_Model_tellOut n i j a b v1 = some (i2, j2, a2, b2, r2)) : Met l y_Model_tellOut w_Model_tellOut ({ frames := 0, cells := 0, slots := 0, locals := 0 } : Room) (va_Pc [.ref h, .int v1] (yE dC dI cI cJ cB adK adV adA h v i j a b sz)) (va_Qv xV (yB dC dI cI cJ cB h v i2 j2 a2 b2 (va_A (MW cI cJ cB h v i j a b) sz)) (va_A (MW cI cJ cB h v i j a b) sz)) 0 0 ((va_A (MW cI cJ cB h v i j a b) sz)) := by
  refine Met.ofW (cc := b_Model_tellOut) (maxL := 2) (ret := none) (by decide) rfl ?_
  intro p e s m args below meth c s₁ B hml hv
  obtain ⟨rfl, hsz, hP, hK, hE, hD0⟩ := hv
  have hx := B.exec
  have hb := B.bytes
  have hr := B.returns
  have hts := atoms_spec (ws := w_Model_tellOut) B.pre
  have htt : ∀ w ∈ tw_T, w.before _ s = true := fun w h => hts w (List.mem_cons_of_mem _ h)
  have hown : s.vm.findClass R_Model = some m.cls := findClass_of_methodNamed B.named
  have hlocks := B.notSynchronized
  subst hsz
  have hD := hD0.self (sz := s.heap.size)
  generalize hAe : (va_A (MW cI cJ cB h v i j a b) s.heap.size) = A at hD hE ⊢
  have hA : ∀ q : Nat, s.heap.size ≤ q → A q := fun q h => by rw [← hAe]; exact Or.inr h
  have hS : va_S A s.heap s.heap [] := va_S.rf
  have hl := lv_entry ([.ref h, .int v1]) (n := 2) (Nat.le_of_ble_eq_true rfl)
  rw [lg_entry_eq]
  generalize (lg_sl ([.ref h, .int v1]) ++ List.replicate (2 - (lg_sl ([.ref h, .int v1])).length) Slot.unset).toArray = ls at hl ⊢
  have hl : lv_has ls 2 [(0, .ref h), (1, .int v1)] := hl
  rw [m_Model_tellOut] at hm
  refine lv_aload_n hx hb d_Model_tellOut_0 rfl (lv_at hl 0 rfl) ?_
  refine va_get (D := (dC, dI)) (ci := 12) (v := .ref ((v 45))) (C := R_Model) (T := F_Model) (N := 127) hx hb htt iw_Model hown hK hP 0 yo_12 rfl 45 (Nat.le_of_ble_eq_true rfl) (htt _ lk_Model_225) (fun _ h9 => h9) yg_45 d_Model_tellOut_1 ?_
  refine lv_aload_n hx hb d_Model_tellOut_4 rfl (lv_at hl 0 rfl) ?_
  refine va_get (D := (dC, dI)) (ci := 12) (v := .long (j 48)) (C := R_Model) (T := F_Model) (N := 127) hx hb htt iw_Model hown hK hP 0 yo_12 rfl 48 (Nat.le_of_ble_eq_true rfl) (htt _ lk_Model_356) (fun _ h9 => h9) yg_48 d_Model_tellOut_5 ?_
  refine lv_ldc2 (v := 2000) hx hb hown (htt _ lk_Model_789) d_Model_tellOut_8 ?_
  refine lv_lrem hx hb d_Model_tellOut_11 (by decide) ?_
  refine lv_l2i hx hb d_Model_tellOut_12 rfl ?_
  refine lv_iload_n hx hb d_Model_tellOut_13 rfl (lv_at hl 1 rfl) ?_
  refine lv_i2b hx hb d_Model_tellOut_14 rfl ?_
  obtain ⟨h_1, hm⟩ := ck_some hm
  refine va_bast hx hb hK hP hD hS 37 2 ya_45 rfl h_1 d_Model_tellOut_15 (fun H locs hP hD hS => ?_)
  obtain ⟨a_2, ea_2⟩ : ∃ y9 : Nat → Nat → Int32, y9 = sv a 45 (((j 48) - (j 48) / 2000 * 2000).toInt32).toNatClampNeg (vp_nar .byte v1.toInt8.toInt32) := ⟨_, rfl⟩
  replace hm := ob1_at ea_2 hm
  obtain ⟨hP, hD⟩ := yv_45 ea_2 hP hD
  refine lv_aload_n hx hb d_Model_tellOut_16 rfl (lv_at hl 0 rfl) ?_
  refine lv_dup hx hb d_Model_tellOut_17 rfl ?_
  refine va_get (D := (dC, dI)) (ci := 12) (v := .long (j 48)) (C := R_Model) (T := F_Model) (N := 127) hx hb htt iw_Model hown hK hP 0 yo_12 rfl 48 (Nat.le_of_ble_eq_true rfl) (htt _ lk_Model_356) (fun _ h9 => h9) yg_48 d_Model_tellOut_18 ?_
  refine lv_lconst (v := 1) hx hb d_Model_tellOut_21 (by decide) ?_
  refine lv_ladd hx hb d_Model_tellOut_22 ?_
  refine lv_topl (fun x_3 ex_3 => ?_)
  replace hm := ob1_at ex_3 hm
  refine va_put (D := (dC, dI)) (ci := 12) (v := .long x_3) (ty := .long) (C := R_Model) (T := F_Model) (N := 127) hx hb htt iw_Model t_Model t_Model_ok n_Model hown hK hP hD hS 0 yo_12 rfl 48 (Nat.le_of_ble_eq_true rfl) (htt _ lk_Model_356) (fun _ h9 => h9) rfl (by decide +kernel) rfl rfl yl_48 d_Model_tellOut_23 (fun H locs hP hD hS => ?_)
  obtain ⟨j_4, ej_4⟩ : ∃ y9 : Nat → Int64, y9 = vp_updL j 48 x_3 := ⟨_, rfl⟩
  replace hm := ob1_at ej_4 hm
  obtain ⟨hP, hD⟩ := yw_48 ej_4 hP hD
  obtain ⟨e1i, e1j, e1a, e1b, e3⟩ := re4m hm
  obtain ⟨hP, hD⟩ := y_eq e1i e1j e1a e1b hP hD
  exact W.vret hx hb hr (fun t9 ht hW => ⟨⟨(), rfl, trivial, by rw [ht]; exact hP, hD⟩, hS.F ht⟩) hS.2.2 d_Model_tellOut_26

def m_Model_ended (n : Nat) (i : Nat → Int32) (j : Nat → Int64) (a : Nat → Nat → Int32) (b : Nat → Nat → Int64)  : Option ((Nat → Int32) × (Nat → Int64) × (Nat → Nat → Int32) × (Nat → Nat → Int64) × Int32) := ob1 (upd i 97 0 : Nat → Int32) (fun i_1 => ob1 (upd i_1 98 0 : Nat → Int32) (fun i_2 => ob1 (upd i_2 99 0 : Nat → Int32) (fun i_3 => if ((i_3 103)) ≤ ((0 : Int32)) then ob1 (upd i_3 103 0 : Nat → Int32) (fun i_5 => some (i_5, j, a, b, (0 : Int32))) else ob1 (i_3 104 : Int32) (fun x_6 => ob1 (upd i_3 47 x_6 : Nat → Int32) (fun i_7 => ob1 (upd i_7 103 0 : Nat → Int32) (fun i_8 => some (i_8, j, a, b, (0 : Int32))))))))
set_option maxHeartbeats 4000000 in
set_option maxRecDepth 100000 in
theorem x_Model_ended (l : Launch) (dC : Nat → ClassId) (dI : Nat → Nat → Nat) (cI cJ cB : ClassId) (adK adV adA : Nat → Nat) (h : Nat) (v : Nat → Nat) (sz : Nat) (n : Nat) {i : Nat → Int32} {j : Nat → Int64} {a : Nat → Nat → Int32} {b : Nat → Nat → Int64}  {i2 : Nat → Int32} {j2 : Nat → Int64} {a2 : Nat → Nat → Int32} {b2 : Nat → Nat → Int64} {r2 : Int32} (hm : m_Model_ended n i j a b = some (i2, j2, a2, b2, r2)) : Met l y_Model_ended w_Model_ended ({ frames := 0, cells := 0, slots := 0, locals := 0 } : Room) (va_Pc [.ref h] (yE dC dI cI cJ cB adK adV adA h v i j a b sz)) (va_Qv xV (yB dC dI cI cJ cB h v i2 j2 a2 b2 (va_A (MW cI cJ cB h v i j a b) sz)) (va_A (MW cI cJ cB h v i j a b) sz)) 0 0 ((va_A (MW cI cJ cB h v i j a b) sz)) := by
  refine Met.ofW (cc := b_Model_ended) (maxL := 1) (ret := none) (by decide) rfl ?_
  intro p e s m args below meth c s₁ B hml hv
  obtain ⟨rfl, hsz, hP, hK, hE, hD0⟩ := hv
  have hx := B.exec
  have hb := B.bytes
  have hr := B.returns
  have hts := atoms_spec (ws := w_Model_ended) B.pre
  have htt : ∀ w ∈ tw_T, w.before _ s = true := fun w h => hts w (List.mem_cons_of_mem _ h)
  have hown : s.vm.findClass R_Model = some m.cls := findClass_of_methodNamed B.named
  have hlocks := B.notSynchronized
  subst hsz
  have hD := hD0.self (sz := s.heap.size)
  generalize hAe : (va_A (MW cI cJ cB h v i j a b) s.heap.size) = A at hD hE ⊢
  have hA : ∀ q : Nat, s.heap.size ≤ q → A q := fun q h => by rw [← hAe]; exact Or.inr h
  have hS : va_S A s.heap s.heap [] := va_S.rf
  have hl := lv_entry ([.ref h]) (n := 1) (Nat.le_of_ble_eq_true rfl)
  rw [lg_entry_eq]
  generalize (lg_sl ([.ref h]) ++ List.replicate (1 - (lg_sl ([.ref h])).length) Slot.unset).toArray = ls at hl ⊢
  have hl : lv_has ls 1 [(0, .ref h)] := hl
  rw [m_Model_ended] at hm
  refine lv_aload_n hx hb d_Model_ended_0 rfl (lv_at hl 0 rfl) ?_
  refine lv_iconst (v := 0) hx hb d_Model_ended_1 (by decide) ?_
  refine va_put (D := (dC, dI)) (ci := 12) (v := .int 0) (ty := .int) (C := R_Model) (T := F_Model) (N := 127) hx hb htt iw_Model t_Model t_Model_ok n_Model hown hK hP hD hS 0 yo_12 rfl 97 (Nat.le_of_ble_eq_true rfl) (htt _ lk_Model_532) (fun _ h9 => h9) rfl (by decide +kernel) rfl rfl yl_97 d_Model_ended_2 (fun H locs hP hD hS => ?_)
  obtain ⟨i_1, ei_1⟩ : ∃ y9 : Nat → Int32, y9 = upd i 97 0 := ⟨_, rfl⟩
  replace hm := ob1_at ei_1 hm
  obtain ⟨hP, hD⟩ := yw_97 ei_1 hP hD
  refine lv_aload_n hx hb d_Model_ended_5 rfl (lv_at hl 0 rfl) ?_
  refine lv_iconst (v := 0) hx hb d_Model_ended_6 (by decide) ?_
  refine va_put (D := (dC, dI)) (ci := 12) (v := .int 0) (ty := .int) (C := R_Model) (T := F_Model) (N := 127) hx hb htt iw_Model t_Model t_Model_ok n_Model hown hK hP hD hS 0 yo_12 rfl 98 (Nat.le_of_ble_eq_true rfl) (htt _ lk_Model_535) (fun _ h9 => h9) rfl (by decide +kernel) rfl rfl yl_98 d_Model_ended_7 (fun H locs hP hD hS => ?_)
  obtain ⟨i_2, ei_2⟩ : ∃ y9 : Nat → Int32, y9 = upd i_1 98 0 := ⟨_, rfl⟩
  replace hm := ob1_at ei_2 hm
  obtain ⟨hP, hD⟩ := yw_98 ei_2 hP hD
  refine lv_aload_n hx hb d_Model_ended_10 rfl (lv_at hl 0 rfl) ?_
  refine lv_iconst (v := 0) hx hb d_Model_ended_11 (by decide) ?_
  refine va_put (D := (dC, dI)) (ci := 12) (v := .int 0) (ty := .int) (C := R_Model) (T := F_Model) (N := 127) hx hb htt iw_Model t_Model t_Model_ok n_Model hown hK hP hD hS 0 yo_12 rfl 99 (Nat.le_of_ble_eq_true rfl) (htt _ lk_Model_538) (fun _ h9 => h9) rfl (by decide +kernel) rfl rfl yl_99 d_Model_ended_12 (fun H locs hP hD hS => ?_)
  obtain ⟨i_3, ei_3⟩ : ∃ y9 : Nat → Int32, y9 = upd i_2 99 0 := ⟨_, rfl⟩
  replace hm := ob1_at ei_3 hm
  obtain ⟨hP, hD⟩ := yw_99 ei_3 hP hD
  refine lv_aload_n hx hb d_Model_ended_15 rfl (lv_at hl 0 rfl) ?_
  refine va_get (D := (dC, dI)) (ci := 12) (v := .int (i_3 103)) (C := R_Model) (T := F_Model) (N := 127) hx hb htt iw_Model hown hK hP 0 yo_12 rfl 103 (Nat.le_of_ble_eq_true rfl) (htt _ lk_Model_541) (fun _ h9 => h9) yg_103 d_Model_ended_16 ?_
  refine lv_if_le (tgt := 30) hx hb d_Model_ended_19 (by decide) (fun c_4 => ?_) (fun c_4 => ?_)
  · replace hm := if_t c_4 hm
    refine lv_aload_n hx hb d_Model_ended_30 rfl (lv_at hl 0 rfl) ?_
    refine lv_iconst (v := 0) hx hb d_Model_ended_31 (by decide) ?_
    refine va_put (D := (dC, dI)) (ci := 12) (v := .int 0) (ty := .int) (C := R_Model) (T := F_Model) (N := 127) hx hb htt iw_Model t_Model t_Model_ok n_Model hown hK hP hD hS 0 yo_12 rfl 103 (Nat.le_of_ble_eq_true rfl) (htt _ lk_Model_541) (fun _ h9 => h9) rfl (by decide +kernel) rfl rfl yl_103 d_Model_ended_32 (fun H locs hP hD hS => ?_)
    obtain ⟨i_5, ei_5⟩ : ∃ y9 : Nat → Int32, y9 = upd i_3 103 0 := ⟨_, rfl⟩
    replace hm := ob1_at ei_5 hm
    obtain ⟨hP, hD⟩ := yw_103 ei_5 hP hD
    obtain ⟨e1i, e1j, e1a, e1b, e3⟩ := re4m hm
    obtain ⟨hP, hD⟩ := y_eq e1i e1j e1a e1b hP hD
    exact W.vret hx hb hr (fun t9 ht hW => ⟨⟨(), rfl, trivial, by rw [ht]; exact hP, hD⟩, hS.F ht⟩) hS.2.2 d_Model_ended_35
  · replace hm := if_f c_4 hm
    refine lv_aload_n hx hb d_Model_ended_22 rfl (lv_at hl 0 rfl) ?_
    refine lv_aload_n hx hb d_Model_ended_23 rfl (lv_at hl 0 rfl) ?_
    refine va_get (D := (dC, dI)) (ci := 12) (v := .int (i_3 104)) (C := R_Model) (T := F_Model) (N := 127) hx hb htt iw_Model hown hK hP 0 yo_12 rfl 104 (Nat.le_of_ble_eq_true rfl) (htt _ lk_Model_544) (fun _ h9 => h9) yg_104 d_Model_ended_24 ?_
    refine lv_topi (fun x_6 ex_6 => ?_)
    replace hm := ob1_at ex_6 hm
    refine va_put (D := (dC, dI)) (ci := 12) (v := .int x_6) (ty := .int) (C := R_Model) (T := F_Model) (N := 127) hx hb htt iw_Model t_Model t_Model_ok n_Model hown hK hP hD hS 0 yo_12 rfl 47 (Nat.le_of_ble_eq_true rfl) (htt _ lk_Model_366) (fun _ h9 => h9) rfl (by decide +kernel) rfl rfl yl_47 d_Model_ended_27 (fun H locs hP hD hS => ?_)
    obtain ⟨i_7, ei_7⟩ : ∃ y9 : Nat → Int32, y9 = upd i_3 47 x_6 := ⟨_, rfl⟩
    replace hm := ob1_at ei_7 hm
    obtain ⟨hP, hD⟩ := yw_47 ei_7 hP hD
    refine lv_aload_n hx hb d_Model_ended_30 rfl (lv_at hl 0 rfl) ?_
    refine lv_iconst (v := 0) hx hb d_Model_ended_31 (by decide) ?_
    refine va_put (D := (dC, dI)) (ci := 12) (v := .int 0) (ty := .int) (C := R_Model) (T := F_Model) (N := 127) hx hb htt iw_Model t_Model t_Model_ok n_Model hown hK hP hD hS 0 yo_12 rfl 103 (Nat.le_of_ble_eq_true rfl) (htt _ lk_Model_541) (fun _ h9 => h9) rfl (by decide +kernel) rfl rfl yl_103 d_Model_ended_32 (fun H locs hP hD hS => ?_)
    obtain ⟨i_8, ei_8⟩ : ∃ y9 : Nat → Int32, y9 = upd i_7 103 0 := ⟨_, rfl⟩
    replace hm := ob1_at ei_8 hm
    obtain ⟨hP, hD⟩ := yw_103 ei_8 hP hD
    obtain ⟨e1i, e1j, e1a, e1b, e3⟩ := re4m hm
    obtain ⟨hP, hD⟩ := y_eq e1i e1j e1a e1b hP hD
    exact W.vret hx hb hr (fun t9 ht hW => ⟨⟨(), rfl, trivial, by rw [ht]; exact hP, hD⟩, hS.F ht⟩) hS.2.2 d_Model_ended_35

def m_Model_fault (n : Nat) (i : Nat → Int32) (j : Nat → Int64) (a : Nat → Nat → Int32) (b : Nat → Nat → Int64) (v1 : Int32) : Option ((Nat → Int32) × (Nat → Int64) × (Nat → Nat → Int32) × (Nat → Nat → Int64) × Int32) := ob1 (upd i 0 0 : Nat → Int32) (fun i_1 => if ((i_1 75)) = ((0 : Int32)) then some (i_1, j, a, b, (-1)) else if v1 = ((0 : Int32)) then some (i_1, j, a, b, i_1 76) else if v1 = ((1 : Int32)) then some (i_1, j, a, b, i_1 75) else some (i_1, j, a, b, (-1)))
set_option maxHeartbeats 4000000 in
set_option maxRecDepth 100000 in
theorem x_Model_fault (l : Launch) (dC : Nat → ClassId) (dI : Nat → Nat → Nat) (cI cJ cB : ClassId) (adK adV adA : Nat → Nat) (h : Nat) (v : Nat → Nat) (sz : Nat) (n : Nat) {i : Nat → Int32} {j : Nat → Int64} {a : Nat → Nat → Int32} {b : Nat → Nat → Int64} {v1 : Int32} {i2 : Nat → Int32} {j2 : Nat → Int64} {a2 : Nat → Nat → Int32} {b2 : Nat → Nat → Int64} {r2 : Int32} (hm : m_Model_fault n i j a b v1 = some (i2, j2, a2, b2, r2)) : Met l y_Model_fault w_Model_fault ({ frames := 0, cells := 0, slots := 0, locals := 0 } : Room) (va_Pc [.ref h, .int v1] (yE dC dI cI cJ cB adK adV adA h v i j a b sz)) (va_Qi (xR r2) (yB dC dI cI cJ cB h v i2 j2 a2 b2 (va_A (MW cI cJ cB h v i j a b) sz)) (va_A (MW cI cJ cB h v i j a b) sz)) 0 0 ((va_A (MW cI cJ cB h v i j a b) sz)) := by
  refine Met.ofW (cc := b_Model_fault) (maxL := 2) (ret := (some .int)) (by decide) rfl ?_
  intro p e s m args below meth c s₁ B hml hv
  obtain ⟨rfl, hsz, hP, hK, hE, hD0⟩ := hv
  have hx := B.exec
  have hb := B.bytes
  have hr := B.returns
  have hts := atoms_spec (ws := w_Model_fault) B.pre
  have htt : ∀ w ∈ tw_T, w.before _ s = true := fun w h => hts w (List.mem_cons_of_mem _ h)
  have hown : s.vm.findClass R_Model = some m.cls := findClass_of_methodNamed B.named
  have hlocks := B.notSynchronized
  subst hsz
  have hD := hD0.self (sz := s.heap.size)
  generalize hAe : (va_A (MW cI cJ cB h v i j a b) s.heap.size) = A at hD hE ⊢
  have hA : ∀ q : Nat, s.heap.size ≤ q → A q := fun q h => by rw [← hAe]; exact Or.inr h
  have hS : va_S A s.heap s.heap [] := va_S.rf
  have hl := lv_entry ([.ref h, .int v1]) (n := 2) (Nat.le_of_ble_eq_true rfl)
  rw [lg_entry_eq]
  generalize (lg_sl ([.ref h, .int v1]) ++ List.replicate (2 - (lg_sl ([.ref h, .int v1])).length) Slot.unset).toArray = ls at hl ⊢
  have hl : lv_has ls 2 [(0, .ref h), (1, .int v1)] := hl
  rw [m_Model_fault] at hm
  refine lv_aload_n hx hb d_Model_fault_0 rfl (lv_at hl 0 rfl) ?_
  refine lv_iconst (v := 0) hx hb d_Model_fault_1 (by decide) ?_
  refine va_put (D := (dC, dI)) (ci := 12) (v := .int 0) (ty := .int) (C := R_Model) (T := F_Model) (N := 127) hx hb htt iw_Model t_Model t_Model_ok n_Model hown hK hP hD hS 0 yo_12 rfl 0 (Nat.le_of_ble_eq_true rfl) (htt _ lk_Model_1) (fun _ h9 => h9) rfl (by decide +kernel) rfl rfl yl_0 d_Model_fault_2 (fun H locs hP hD hS => ?_)
  obtain ⟨i_1, ei_1⟩ : ∃ y9 : Nat → Int32, y9 = upd i 0 0 := ⟨_, rfl⟩
  replace hm := ob1_at ei_1 hm
  obtain ⟨hP, hD⟩ := yw_0 ei_1 hP hD
  refine lv_aload_n hx hb d_Model_fault_5 rfl (lv_at hl 0 rfl) ?_
  refine va_get (D := (dC, dI)) (ci := 12) (v := .int (i_1 75)) (C := R_Model) (T := F_Model) (N := 127) hx hb htt iw_Model hown hK hP 0 yo_12 rfl 75 (Nat.le_of_ble_eq_true rfl) (htt _ lk_Model_416) (fun _ h9 => h9) yg_75 d_Model_fault_6 ?_
  refine lv_if_ne (tgt := 16) hx hb d_Model_fault_9 (by decide) (fun c_2 => ?_) (fun c_2 => ?_)
  · replace hm := if_f c_2 hm
    refine lv_iload_n hx hb d_Model_fault_16 rfl (lv_at hl 1 rfl) ?_
    refine lv_if_ne (tgt := 27) hx hb d_Model_fault_17 (by decide) (fun c_3 => ?_) (fun c_3 => ?_)
    · replace hm := if_f c_3 hm
      refine lv_iload_n hx hb d_Model_fault_27 rfl (lv_at hl 1 rfl) ?_
      refine lv_iconst (v := 1) hx hb d_Model_fault_28 (by decide) ?_
      refine lv_icmp_ne (tgt := 39) hx hb d_Model_fault_29 (by decide) (fun c_4 => ?_) (fun c_4 => ?_)
      · replace hm := if_f c_4 hm
        refine lv_iconst (v := -1) hx hb d_Model_fault_39 (by decide) ?_
        obtain ⟨e1i, e1j, e1a, e1b, e3⟩ := re4m hm
        obtain ⟨hP, hD⟩ := y_eq e1i e1j e1a e1b hP hD
        exact W.iret hx hb hr (fun t9 ht hW => ⟨⟨_, (), rfl, e3.symm, by rw [ht]; exact hP, hD⟩, hS.F ht⟩) hS.2.2 d_Model_fault_40
      · replace hm := if_t c_4 hm
        refine lv_aload_n hx hb d_Model_fault_32 rfl (lv_at hl 0 rfl) ?_
        refine va_get (D := (dC, dI)) (ci := 12) (v := .int (i_1 75)) (C := R_Model) (T := F_Model) (N := 127) hx hb htt iw_Model hown hK hP 0 yo_12 rfl 75 (Nat.le_of_ble_eq_true rfl) (htt _ lk_Model_416) (fun _ h9 => h9) yg_75 d_Model_fault_33 ?_
        refine lv_goto (tgt := 40) hx hb d_Model_fault_36 (by decide) ?_
        obtain ⟨e1i, e1j, e1a, e1b, e3⟩ := re4m hm
        obtain ⟨hP, hD⟩ := y_eq e1i e1j e1a e1b hP hD
        exact W.iret hx hb hr (fun t9 ht hW => ⟨⟨_, (), rfl, e3.symm, by rw [ht]; exact hP, hD⟩, hS.F ht⟩) hS.2.2 d_Model_fault_40
    · replace hm := if_t c_3 hm
      refine lv_aload_n hx hb d_Model_fault_20 rfl (lv_at hl 0 rfl) ?_
      refine va_get (D := (dC, dI)) (ci := 12) (v := .int (i_1 76)) (C := R_Model) (T := F_Model) (N := 127) hx hb htt iw_Model hown hK hP 0 yo_12 rfl 76 (Nat.le_of_ble_eq_true rfl) (htt _ lk_Model_264) (fun _ h9 => h9) yg_76 d_Model_fault_21 ?_
      refine lv_goto (tgt := 40) hx hb d_Model_fault_24 (by decide) ?_
      obtain ⟨e1i, e1j, e1a, e1b, e3⟩ := re4m hm
      obtain ⟨hP, hD⟩ := y_eq e1i e1j e1a e1b hP hD
      exact W.iret hx hb hr (fun t9 ht hW => ⟨⟨_, (), rfl, e3.symm, by rw [ht]; exact hP, hD⟩, hS.F ht⟩) hS.2.2 d_Model_fault_40
  · replace hm := if_t c_2 hm
    refine lv_iconst (v := -1) hx hb d_Model_fault_12 (by decide) ?_
    refine lv_goto (tgt := 40) hx hb d_Model_fault_13 (by decide) ?_
    obtain ⟨e1i, e1j, e1a, e1b, e3⟩ := re4m hm
    obtain ⟨hP, hD⟩ := y_eq e1i e1j e1a e1b hP hD
    exact W.iret hx hb hr (fun t9 ht hW => ⟨⟨_, (), rfl, e3.symm, by rw [ht]; exact hP, hD⟩, hS.F ht⟩) hS.2.2 d_Model_fault_40

def m_Model_look (n : Nat) (i : Nat → Int32) (j : Nat → Int64) (a : Nat → Nat → Int32) (b : Nat → Nat → Int64) (v1 : Int32) : Option ((Nat → Int32) × (Nat → Int64) × (Nat → Nat → Int32) × (Nat → Nat → Int64) × Int32) := ob1 (upd i 0 0 : Nat → Int32) (fun i_1 => if v1 = 0 then some (i_1, j, a, b, i_1 92) else if v1 = 1 then if ((i_1 92)) = ((1 : Int32)) then some (i_1, j, a, b, 0) else some (i_1, j, a, b, i_1 94) else if v1 = 2 then some (i_1, j, a, b, i_1 93) else if v1 = 3 then some (i_1, j, a, b, i_1 97) else if v1 = 4 then some (i_1, j, a, b, i_1 98) else if v1 = 5 then some (i_1, j, a, b, i_1 96) else if v1 = 6 then some (i_1, j, a, b, i_1 95) else if v1 = 7 then some (i_1, j, a, b, i_1 47) else if v1 = 8 then some (i_1, j, a, b, i_1 36) else if v1 = 9 then some (i_1, j, a, b, i_1 33) else if v1 = 10 then ob0 (m_Math_min2 n (j 48) (2000 : Int64)) (fun r_15 => some (i_1, j, a, b, r_15.toInt32)) else if v1 = 11 then some (i_1, j, a, b, i_1 74) else if v1 = 12 then some (i_1, j, a, b, i_1 46) else if v1 = 13 then some (i_1, j, a, b, i_1 99) else some (i_1, j, a, b, (-1)))
set_option maxHeartbeats 4000000 in
set_option maxRecDepth 100000 in
theorem x_Model_look (l : Launch) (dC : Nat → ClassId) (dI : Nat → Nat → Nat) (cI cJ cB : ClassId) (adK adV adA : Nat → Nat) (h : Nat) (v : Nat → Nat) (sz : Nat) (n : Nat) {i : Nat → Int32} {j : Nat → Int64} {a : Nat → Nat → Int32} {b : Nat → Nat → Int64} {v1 : Int32} {i2 : Nat → Int32} {j2 : Nat → Int64} {a2 : Nat → Nat → Int32} {b2 : Nat → Nat → Int64} {r2 : Int32} (hm : m_Model_look n i j a b v1 = some (i2, j2, a2, b2, r2)) : Met l y_Model_look w_Model_look ({ frames := 1, cells := 0, slots := 0, locals := 23 } : Room) (va_Pc [.ref h, .int v1] (yE dC dI cI cJ cB adK adV adA h v i j a b sz)) (va_Qi (xR r2) (yB dC dI cI cJ cB h v i2 j2 a2 b2 (va_A (MW cI cJ cB h v i j a b) sz)) (va_A (MW cI cJ cB h v i j a b) sz)) 0 0 ((va_A (MW cI cJ cB h v i j a b) sz)) := by
  refine Met.ofW (cc := b_Model_look) (maxL := 2) (ret := (some .int)) (by decide) rfl ?_
  intro p e s m args below meth c s₁ B hml hv
  obtain ⟨rfl, hsz, hP, hK, hE, hD0⟩ := hv
  have hx := B.exec
  have hb := B.bytes
  have hr := B.returns
  have hts := atoms_spec (ws := w_Model_look) B.pre
  have htt : ∀ w ∈ tw_T, w.before _ s = true := fun w h => hts w (List.mem_cons_of_mem _ h)
  have hown : s.vm.findClass R_Model = some m.cls := findClass_of_methodNamed B.named
  have hlocks := B.notSynchronized
  subst hsz
  have hD := hD0.self (sz := s.heap.size)
  generalize hAe : (va_A (MW cI cJ cB h v i j a b) s.heap.size) = A at hD hE ⊢
  have hA : ∀ q : Nat, s.heap.size ≤ q → A q := fun q h => by rw [← hAe]; exact Or.inr h
  have hS : va_S A s.heap s.heap [] := va_S.rf
  have hl := lv_entry ([.ref h, .int v1]) (n := 2) (Nat.le_of_ble_eq_true rfl)
  rw [lg_entry_eq]
  generalize (lg_sl ([.ref h, .int v1]) ++ List.replicate (2 - (lg_sl ([.ref h, .int v1])).length) Slot.unset).toArray = ls at hl ⊢
  have hl : lv_has ls 2 [(0, .ref h), (1, .int v1)] := hl
  rw [m_Model_look] at hm
  refine lv_aload_n hx hb d_Model_look_0 rfl (lv_at hl 0 rfl) ?_
  refine lv_iconst (v := 0) hx hb d_Model_look_1 (by decide) ?_
  refine va_put (D := (dC, dI)) (ci := 12) (v := .int 0) (ty := .int) (C := R_Model) (T := F_Model) (N := 127) hx hb htt iw_Model t_Model t_Model_ok n_Model hown hK hP hD hS 0 yo_12 rfl 0 (Nat.le_of_ble_eq_true rfl) (htt _ lk_Model_1) (fun _ h9 => h9) rfl (by decide +kernel) rfl rfl yl_0 d_Model_look_2 (fun H locs hP hD hS => ?_)
  obtain ⟨i_1, ei_1⟩ : ∃ y9 : Nat → Int32, y9 = upd i 0 0 := ⟨_, rfl⟩
  replace hm := ob1_at ei_1 hm
  obtain ⟨hP, hD⟩ := yw_0 ei_1 hP hD
  refine lv_iload_n hx hb d_Model_look_5 rfl (lv_at hl 1 rfl) ?_
  rcases Classical.em (v1 = 0) with c_2 | c_2
  · replace hm := if_t c_2 hm
    refine lv_tableIn (x := v1) (tgt := 76) hx hb d_Model_look_6 (by rw [c_2]; decide) (by rw [c_2]; decide) (by rw [c_2]; rfl) (by decide) ?_
    refine lv_aload_n hx hb d_Model_look_76 rfl (lv_at hl 0 rfl) ?_
    refine va_get (D := (dC, dI)) (ci := 12) (v := .int (i_1 92)) (C := R_Model) (T := F_Model) (N := 127) hx hb htt iw_Model hown hK hP 0 yo_12 rfl 92 (Nat.le_of_ble_eq_true rfl) (htt _ lk_Model_494) (fun _ h9 => h9) yg_92 d_Model_look_77 ?_
    obtain ⟨e1i, e1j, e1a, e1b, e3⟩ := re4m hm
    obtain ⟨hP, hD⟩ := y_eq e1i e1j e1a e1b hP hD
    exact W.iret hx hb hr (fun t9 ht hW => ⟨⟨_, (), rfl, e3.symm, by rw [ht]; exact hP, hD⟩, hS.F ht⟩) hS.2.2 d_Model_look_80
  replace hm := if_f c_2 hm
  rcases Classical.em (v1 = 1) with c_3 | c_3
  · replace hm := if_t c_3 hm
    refine lv_tableIn (x := v1) (tgt := 81) hx hb d_Model_look_6 (by rw [c_3]; decide) (by rw [c_3]; decide) (by rw [c_3]; rfl) (by decide) ?_
    refine lv_aload_n hx hb d_Model_look_81 rfl (lv_at hl 0 rfl) ?_
    refine va_get (D := (dC, dI)) (ci := 12) (v := .int (i_1 92)) (C := R_Model) (T := F_Model) (N := 127) hx hb htt iw_Model hown hK hP 0 yo_12 rfl 92 (Nat.le_of_ble_eq_true rfl) (htt _ lk_Model_494) (fun _ h9 => h9) yg_92 d_Model_look_82 ?_
    refine lv_iconst (v := 1) hx hb d_Model_look_85 (by decide) ?_
    refine lv_icmp_ne (tgt := 93) hx hb d_Model_look_86 (by decide) (fun c_4 => ?_) (fun c_4 => ?_)
    · replace hm := if_f c_4 hm
      refine lv_aload_n hx hb d_Model_look_93 rfl (lv_at hl 0 rfl) ?_
      refine va_get (D := (dC, dI)) (ci := 12) (v := .int (i_1 94)) (C := R_Model) (T := F_Model) (N := 127) hx hb htt iw_Model hown hK hP 0 yo_12 rfl 94 (Nat.le_of_ble_eq_true rfl) (htt _ lk_Model_550) (fun _ h9 => h9) yg_94 d_Model_look_94 ?_
      obtain ⟨e1i, e1j, e1a, e1b, e3⟩ := re4m hm
      obtain ⟨hP, hD⟩ := y_eq e1i e1j e1a e1b hP hD
      exact W.iret hx hb hr (fun t9 ht hW => ⟨⟨_, (), rfl, e3.symm, by rw [ht]; exact hP, hD⟩, hS.F ht⟩) hS.2.2 d_Model_look_97
    · replace hm := if_t c_4 hm
      refine lv_iconst (v := 0) hx hb d_Model_look_89 (by decide) ?_
      refine lv_goto (tgt := 97) hx hb d_Model_look_90 (by decide) ?_
      obtain ⟨e1i, e1j, e1a, e1b, e3⟩ := re4m hm
      obtain ⟨hP, hD⟩ := y_eq e1i e1j e1a e1b hP hD
      exact W.iret hx hb hr (fun t9 ht hW => ⟨⟨_, (), rfl, e3.symm, by rw [ht]; exact hP, hD⟩, hS.F ht⟩) hS.2.2 d_Model_look_97
  replace hm := if_f c_3 hm
  rcases Classical.em (v1 = 2) with c_5 | c_5
  · replace hm := if_t c_5 hm
    refine lv_tableIn (x := v1) (tgt := 98) hx hb d_Model_look_6 (by rw [c_5]; decide) (by rw [c_5]; decide) (by rw [c_5]; rfl) (by decide) ?_
    refine lv_aload_n hx hb d_Model_look_98 rfl (lv_at hl 0 rfl) ?_
    refine va_get (D := (dC, dI)) (ci := 12) (v := .int (i_1 93)) (C := R_Model) (T := F_Model) (N := 127) hx hb htt iw_Model hown hK hP 0 yo_12 rfl 93 (Nat.le_of_ble_eq_true rfl) (htt _ lk_Model_523) (fun _ h9 => h9) yg_93 d_Model_look_99 ?_
    obtain ⟨e1i, e1j, e1a, e1b, e3⟩ := re4m hm
    obtain ⟨hP, hD⟩ := y_eq e1i e1j e1a e1b hP hD
    exact W.iret hx hb hr (fun t9 ht hW => ⟨⟨_, (), rfl, e3.symm, by rw [ht]; exact hP, hD⟩, hS.F ht⟩) hS.2.2 d_Model_look_102
  replace hm := if_f c_5 hm
  rcases Classical.em (v1 = 3) with c_6 | c_6
  · replace hm := if_t c_6 hm
    refine lv_tableIn (x := v1) (tgt := 103) hx hb d_Model_look_6 (by rw [c_6]; decide) (by rw [c_6]; decide) (by rw [c_6]; rfl) (by decide) ?_
    refine lv_aload_n hx hb d_Model_look_103 rfl (lv_at hl 0 rfl) ?_
    refine va_get (D := (dC, dI)) (ci := 12) (v := .int (i_1 97)) (C := R_Model) (T := F_Model) (N := 127) hx hb htt iw_Model hown hK hP 0 yo_12 rfl 97 (Nat.le_of_ble_eq_true rfl) (htt _ lk_Model_532) (fun _ h9 => h9) yg_97 d_Model_look_104 ?_
    obtain ⟨e1i, e1j, e1a, e1b, e3⟩ := re4m hm
    obtain ⟨hP, hD⟩ := y_eq e1i e1j e1a e1b hP hD
    exact W.iret hx hb hr (fun t9 ht hW => ⟨⟨_, (), rfl, e3.symm, by rw [ht]; exact hP, hD⟩, hS.F ht⟩) hS.2.2 d_Model_look_107
  replace hm := if_f c_6 hm
  rcases Classical.em (v1 = 4) with c_7 | c_7
  · replace hm := if_t c_7 hm
    refine lv_tableIn (x := v1) (tgt := 108) hx hb d_Model_look_6 (by rw [c_7]; decide) (by rw [c_7]; decide) (by rw [c_7]; rfl) (by decide) ?_
    refine lv_aload_n hx hb d_Model_look_108 rfl (lv_at hl 0 rfl) ?_
    refine va_get (D := (dC, dI)) (ci := 12) (v := .int (i_1 98)) (C := R_Model) (T := F_Model) (N := 127) hx hb htt iw_Model hown hK hP 0 yo_12 rfl 98 (Nat.le_of_ble_eq_true rfl) (htt _ lk_Model_535) (fun _ h9 => h9) yg_98 d_Model_look_109 ?_
    obtain ⟨e1i, e1j, e1a, e1b, e3⟩ := re4m hm
    obtain ⟨hP, hD⟩ := y_eq e1i e1j e1a e1b hP hD
    exact W.iret hx hb hr (fun t9 ht hW => ⟨⟨_, (), rfl, e3.symm, by rw [ht]; exact hP, hD⟩, hS.F ht⟩) hS.2.2 d_Model_look_112
  replace hm := if_f c_7 hm
  rcases Classical.em (v1 = 5) with c_8 | c_8
  · replace hm := if_t c_8 hm
    refine lv_tableIn (x := v1) (tgt := 113) hx hb d_Model_look_6 (by rw [c_8]; decide) (by rw [c_8]; decide) (by rw [c_8]; rfl) (by decide) ?_
    refine lv_aload_n hx hb d_Model_look_113 rfl (lv_at hl 0 rfl) ?_
    refine va_get (D := (dC, dI)) (ci := 12) (v := .int (i_1 96)) (C := R_Model) (T := F_Model) (N := 127) hx hb htt iw_Model hown hK hP 0 yo_12 rfl 96 (Nat.le_of_ble_eq_true rfl) (htt _ lk_Model_556) (fun _ h9 => h9) yg_96 d_Model_look_114 ?_
    obtain ⟨e1i, e1j, e1a, e1b, e3⟩ := re4m hm
    obtain ⟨hP, hD⟩ := y_eq e1i e1j e1a e1b hP hD
    exact W.iret hx hb hr (fun t9 ht hW => ⟨⟨_, (), rfl, e3.symm, by rw [ht]; exact hP, hD⟩, hS.F ht⟩) hS.2.2 d_Model_look_117
  replace hm := if_f c_8 hm
  rcases Classical.em (v1 = 6) with c_9 | c_9
  · replace hm := if_t c_9 hm
    refine lv_tableIn (x := v1) (tgt := 118) hx hb d_Model_look_6 (by rw [c_9]; decide) (by rw [c_9]; decide) (by rw [c_9]; rfl) (by decide) ?_
    refine lv_aload_n hx hb d_Model_look_118 rfl (lv_at hl 0 rfl) ?_
    refine va_get (D := (dC, dI)) (ci := 12) (v := .int (i_1 95)) (C := R_Model) (T := F_Model) (N := 127) hx hb htt iw_Model hown hK hP 0 yo_12 rfl 95 (Nat.le_of_ble_eq_true rfl) (htt _ lk_Model_553) (fun _ h9 => h9) yg_95 d_Model_look_119 ?_
    obtain ⟨e1i, e1j, e1a, e1b, e3⟩ := re4m hm
    obtain ⟨hP, hD⟩ := y_eq e1i e1j e1a e1b hP hD
    exact W.iret hx hb hr (fun t9 ht hW => ⟨⟨_, (), rfl, e3.symm, by rw [ht]; exact hP, hD⟩, hS.F ht⟩) hS.2.2 d_Model_look_122
  replace hm := if_f c_9 hm
  rcases Classical.em (v1 = 7) with c_10 | c_10
  · replace hm := if_t c_10 hm
    refine lv_tableIn (x := v1) (tgt := 123) hx hb d_Model_look_6 (by rw [c_10]; decide) (by rw [c_10]; decide) (by rw [c_10]; rfl) (by decide) ?_
    refine lv_aload_n hx hb d_Model_look_123 rfl (lv_at hl 0 rfl) ?_
    refine va_get (D := (dC, dI)) (ci := 12) (v := .int (i_1 47)) (C := R_Model) (T := F_Model) (N := 127) hx hb htt iw_Model hown hK hP 0 yo_12 rfl 47 (Nat.le_of_ble_eq_true rfl) (htt _ lk_Model_366) (fun _ h9 => h9) yg_47 d_Model_look_124 ?_
    obtain ⟨e1i, e1j, e1a, e1b, e3⟩ := re4m hm
    obtain ⟨hP, hD⟩ := y_eq e1i e1j e1a e1b hP hD
    exact W.iret hx hb hr (fun t9 ht hW => ⟨⟨_, (), rfl, e3.symm, by rw [ht]; exact hP, hD⟩, hS.F ht⟩) hS.2.2 d_Model_look_127
  replace hm := if_f c_10 hm
  rcases Classical.em (v1 = 8) with c_11 | c_11
  · replace hm := if_t c_11 hm
    refine lv_tableIn (x := v1) (tgt := 128) hx hb d_Model_look_6 (by rw [c_11]; decide) (by rw [c_11]; decide) (by rw [c_11]; rfl) (by decide) ?_
    refine lv_aload_n hx hb d_Model_look_128 rfl (lv_at hl 0 rfl) ?_
    refine va_get (D := (dC, dI)) (ci := 12) (v := .int (i_1 36)) (C := R_Model) (T := F_Model) (N := 127) hx hb htt iw_Model hown hK hP 0 yo_12 rfl 36 (Nat.le_of_ble_eq_true rfl) (htt _ lk_Model_350) (fun _ h9 => h9) yg_36 d_Model_look_129 ?_
    obtain ⟨e1i, e1j, e1a, e1b, e3⟩ := re4m hm
    obtain ⟨hP, hD⟩ := y_eq e1i e1j e1a e1b hP hD
    exact W.iret hx hb hr (fun t9 ht hW => ⟨⟨_, (), rfl, e3.symm, by rw [ht]; exact hP, hD⟩, hS.F ht⟩) hS.2.2 d_Model_look_132
  replace hm := if_f c_11 hm
  rcases Classical.em (v1 = 9) with c_12 | c_12
  · replace hm := if_t c_12 hm
    refine lv_tableIn (x := v1) (tgt := 133) hx hb d_Model_look_6 (by rw [c_12]; decide) (by rw [c_12]; decide) (by rw [c_12]; rfl) (by decide) ?_
    refine lv_aload_n hx hb d_Model_look_133 rfl (lv_at hl 0 rfl) ?_
    refine va_get (D := (dC, dI)) (ci := 12) (v := .int (i_1 33)) (C := R_Model) (T := F_Model) (N := 127) hx hb htt iw_Model hown hK hP 0 yo_12 rfl 33 (Nat.le_of_ble_eq_true rfl) (htt _ lk_Model_344) (fun _ h9 => h9) yg_33 d_Model_look_134 ?_
    obtain ⟨e1i, e1j, e1a, e1b, e3⟩ := re4m hm
    obtain ⟨hP, hD⟩ := y_eq e1i e1j e1a e1b hP hD
    exact W.iret hx hb hr (fun t9 ht hW => ⟨⟨_, (), rfl, e3.symm, by rw [ht]; exact hP, hD⟩, hS.F ht⟩) hS.2.2 d_Model_look_137
  replace hm := if_f c_12 hm
  rcases Classical.em (v1 = 10) with c_13 | c_13
  · replace hm := if_t c_13 hm
    refine lv_tableIn (x := v1) (tgt := 138) hx hb d_Model_look_6 (by rw [c_13]; decide) (by rw [c_13]; decide) (by rw [c_13]; rfl) (by decide) ?_
    refine lv_aload_n hx hb d_Model_look_138 rfl (lv_at hl 0 rfl) ?_
    refine va_get (D := (dC, dI)) (ci := 12) (v := .long (j 48)) (C := R_Model) (T := F_Model) (N := 127) hx hb htt iw_Model hown hK hP 0 yo_12 rfl 48 (Nat.le_of_ble_eq_true rfl) (htt _ lk_Model_356) (fun _ h9 => h9) yg_48 d_Model_look_139 ?_
    refine lv_ldc2 (v := 2000) hx hb hown (htt _ lk_Model_789) d_Model_look_142 ?_
    obtain ⟨r_15, h_14, hm⟩ := ob0_some hm
    have hFc := x_free0 hS hA
    refine va_calll (va_runS (As := [.long (j 48), .long 2000]) (rest := []) ⟨hx, hb, hml, hown, hts⟩ (x_Math_min2 l H.size n h_14) (va_cwS 2 hts (tw_GS tw_cons cw_Math_min2 lk_Model_140 st_Math_min2 ini_Math) rfl rfl rfl hd_Math_min2 ⟨Nat.le_of_ble_eq_true rfl, Nat.le_of_ble_eq_true rfl⟩) xpS0 rfl rfl hl.1 rfl (lv_room (Nat.le_of_ble_eq_true rfl)) d_Model_look_145 ⟨Nat.le_of_ble_eq_true rfl, Nat.le_of_ble_eq_true rfl⟩) hS (fun q _ h => hFc q h) hFc (fun r9 u9 t9 H locs ht hvm e9 hB hz1 hk1 hS => ?_)
    have e9 : r_15 = r9 := e9
    subst e9
    replace hP := x_keep hP hk1
    clear hFc hk1 hz1 hvm hB ht
    refine lv_l2i hx hb d_Model_look_148 rfl ?_
    obtain ⟨e1i, e1j, e1a, e1b, e3⟩ := re4m hm
    obtain ⟨hP, hD⟩ := y_eq e1i e1j e1a e1b hP hD
    exact W.iret hx hb hr (fun t9 ht hW => ⟨⟨_, (), rfl, e3.symm, by rw [ht]; exact hP, hD⟩, hS.F ht⟩) hS.2.2 d_Model_look_149
  replace hm := if_f c_13 hm
  rcases Classical.em (v1 = 11) with c_16 | c_16
  · replace hm := if_t c_16 hm
    refine lv_tableIn (x := v1) (tgt := 150) hx hb d_Model_look_6 (by rw [c_16]; decide) (by rw [c_16]; decide) (by rw [c_16]; rfl) (by decide) ?_
    refine lv_aload_n hx hb d_Model_look_150 rfl (lv_at hl 0 rfl) ?_
    refine va_get (D := (dC, dI)) (ci := 12) (v := .int (i_1 74)) (C := R_Model) (T := F_Model) (N := 127) hx hb htt iw_Model hown hK hP 0 yo_12 rfl 74 (Nat.le_of_ble_eq_true rfl) (htt _ lk_Model_409) (fun _ h9 => h9) yg_74 d_Model_look_151 ?_
    obtain ⟨e1i, e1j, e1a, e1b, e3⟩ := re4m hm
    obtain ⟨hP, hD⟩ := y_eq e1i e1j e1a e1b hP hD
    exact W.iret hx hb hr (fun t9 ht hW => ⟨⟨_, (), rfl, e3.symm, by rw [ht]; exact hP, hD⟩, hS.F ht⟩) hS.2.2 d_Model_look_154
  replace hm := if_f c_16 hm
  rcases Classical.em (v1 = 12) with c_17 | c_17
  · replace hm := if_t c_17 hm
    refine lv_tableIn (x := v1) (tgt := 155) hx hb d_Model_look_6 (by rw [c_17]; decide) (by rw [c_17]; decide) (by rw [c_17]; rfl) (by decide) ?_
    refine lv_aload_n hx hb d_Model_look_155 rfl (lv_at hl 0 rfl) ?_
    refine va_get (D := (dC, dI)) (ci := 12) (v := .int (i_1 46)) (C := R_Model) (T := F_Model) (N := 127) hx hb htt iw_Model hown hK hP 0 yo_12 rfl 46 (Nat.le_of_ble_eq_true rfl) (htt _ lk_Model_331) (fun _ h9 => h9) yg_46 d_Model_look_156 ?_
    obtain ⟨e1i, e1j, e1a, e1b, e3⟩ := re4m hm
    obtain ⟨hP, hD⟩ := y_eq e1i e1j e1a e1b hP hD
    exact W.iret hx hb hr (fun t9 ht hW => ⟨⟨_, (), rfl, e3.symm, by rw [ht]; exact hP, hD⟩, hS.F ht⟩) hS.2.2 d_Model_look_159
  replace hm := if_f c_17 hm
  rcases Classical.em (v1 = 13) with c_18 | c_18
  · replace hm := if_t c_18 hm
    refine lv_tableIn (x := v1) (tgt := 160) hx hb d_Model_look_6 (by rw [c_18]; decide) (by rw [c_18]; decide) (by rw [c_18]; rfl) (by decide) ?_
    refine lv_aload_n hx hb d_Model_look_160 rfl (lv_at hl 0 rfl) ?_
    refine va_get (D := (dC, dI)) (ci := 12) (v := .int (i_1 99)) (C := R_Model) (T := F_Model) (N := 127) hx hb htt iw_Model hown hK hP 0 yo_12 rfl 99 (Nat.le_of_ble_eq_true rfl) (htt _ lk_Model_538) (fun _ h9 => h9) yg_99 d_Model_look_161 ?_
    obtain ⟨e1i, e1j, e1a, e1b, e3⟩ := re4m hm
    obtain ⟨hP, hD⟩ := y_eq e1i e1j e1a e1b hP hD
    exact W.iret hx hb hr (fun t9 ht hW => ⟨⟨_, (), rfl, e3.symm, by rw [ht]; exact hP, hD⟩, hS.F ht⟩) hS.2.2 d_Model_look_164
  replace hm := if_f c_18 hm
  refine lv_tableOut (x := v1) (tgt := 165) hx hb d_Model_look_6 (by have q0 := lv_neT c_2 (show (0 : Int32).toInt = 0 from by decide); have q1 := lv_neT c_3 (show (1 : Int32).toInt = 1 from by decide); have q2 := lv_neT c_5 (show (2 : Int32).toInt = 2 from by decide); have q3 := lv_neT c_6 (show (3 : Int32).toInt = 3 from by decide); have q4 := lv_neT c_7 (show (4 : Int32).toInt = 4 from by decide); have q5 := lv_neT c_8 (show (5 : Int32).toInt = 5 from by decide); have q6 := lv_neT c_9 (show (6 : Int32).toInt = 6 from by decide); have q7 := lv_neT c_10 (show (7 : Int32).toInt = 7 from by decide); have q8 := lv_neT c_11 (show (8 : Int32).toInt = 8 from by decide); have q9 := lv_neT c_12 (show (9 : Int32).toInt = 9 from by decide); have q10 := lv_neT c_13 (show (10 : Int32).toInt = 10 from by decide); have q11 := lv_neT c_16 (show (11 : Int32).toInt = 11 from by decide); have q12 := lv_neT c_17 (show (12 : Int32).toInt = 12 from by decide); have q13 := lv_neT c_18 (show (13 : Int32).toInt = 13 from by decide); omega) (by decide) ?_
  refine lv_iconst (v := -1) hx hb d_Model_look_165 (by decide) ?_
  obtain ⟨e1i, e1j, e1a, e1b, e3⟩ := re4m hm
  obtain ⟨hP, hD⟩ := y_eq e1i e1j e1a e1b hP hD
  exact W.iret hx hb hr (fun t9 ht hW => ⟨⟨_, (), rfl, e3.symm, by rw [ht]; exact hP, hD⟩, hS.F ht⟩) hS.2.2 d_Model_look_166

def m_Model_isTurtle (n : Nat) (i : Nat → Int32) (j : Nat → Int64) (a : Nat → Nat → Int32) (b : Nat → Nat → Int64) (v1 : Int32) : Option (Int32) := if v1 < ((0 : Int32)) then some 0 else if ((8 : Int32)) ≤ v1 then some 0 else some 1
set_option maxHeartbeats 4000000 in
set_option maxRecDepth 100000 in
theorem x_Model_isTurtle (l : Launch) (dC : Nat → ClassId) (dI : Nat → Nat → Nat) (cI cJ cB : ClassId) (adK adV adA : Nat → Nat) (h : Nat) (v : Nat → Nat) (sz : Nat) (n : Nat) {i : Nat → Int32} {j : Nat → Int64} {a : Nat → Nat → Int32} {b : Nat → Nat → Int64} {v1 : Int32} {r2 : Int32} (hm : m_Model_isTurtle n i j a b v1 = some r2) : Met l y_Model_isTurtle w_Model_isTurtle ({ frames := 0, cells := 0, slots := 0, locals := 0 } : Room) (va_Pc [.ref h, .int v1] (yEr dC dI cI cJ cB adK adV adA h v i j a b sz)) (va_Qi (xR r2) xT (xN sz)) 0 0 (xN sz) := by
  refine Met.ofW (cc := b_Model_isTurtle) (maxL := 2) (ret := (some .boolean)) (by decide) rfl ?_
  intro p e s m args below meth c s₁ B hml hv
  obtain ⟨rfl, hsz, hP, hK, hE⟩ := hv
  have hx := B.exec
  have hb := B.bytes
  have hr := B.returns
  have hts := atoms_spec (ws := w_Model_isTurtle) B.pre
  have htt : ∀ w ∈ tw_T, w.before _ s = true := fun w h => hts w (List.mem_cons_of_mem _ h)
  have hown : s.vm.findClass R_Model = some m.cls := findClass_of_methodNamed B.named
  have hlocks := B.notSynchronized
  subst hsz
  generalize hAe : xN s.heap.size = A at hE ⊢
  have hA : ∀ q : Nat, s.heap.size ≤ q → A q := fun q h => by rw [← hAe]; exact Or.inr h
  have hS : va_S A s.heap s.heap [] := va_S.rf
  have hl := lv_entry ([.ref h, .int v1]) (n := 2) (Nat.le_of_ble_eq_true rfl)
  rw [lg_entry_eq]
  generalize (lg_sl ([.ref h, .int v1]) ++ List.replicate (2 - (lg_sl ([.ref h, .int v1])).length) Slot.unset).toArray = ls at hl ⊢
  have hl : lv_has ls 2 [(0, .ref h), (1, .int v1)] := hl
  rw [m_Model_isTurtle] at hm
  refine lv_iload_n hx hb d_Model_isTurtle_0 rfl (lv_at hl 1 rfl) ?_
  refine lv_if_lt (tgt := 14) hx hb d_Model_isTurtle_1 (by decide) (fun c_1 => ?_) (fun c_1 => ?_)
  · replace hm := if_t c_1 hm
    refine lv_iconst (v := 0) hx hb d_Model_isTurtle_14 (by decide) ?_
    have e3 := re1 hm
    exact W.zret hx hb hr (by decide) (fun t9 ht hW => ⟨⟨_, (), rfl, e3.symm, trivial⟩, hS.F ht⟩) hS.2.2 d_Model_isTurtle_15
  · replace hm := if_f c_1 hm
    refine lv_iload_n hx hb d_Model_isTurtle_4 rfl (lv_at hl 1 rfl) ?_
    refine lv_bipush (v := 8) hx hb d_Model_isTurtle_5 (by decide) ?_
    refine lv_icmp_ge (tgt := 14) hx hb d_Model_isTurtle_7 (by decide) (fun c_2 => ?_) (fun c_2 => ?_)
    · replace hm := if_t c_2 hm
      refine lv_iconst (v := 0) hx hb d_Model_isTurtle_14 (by decide) ?_
      have e3 := re1 hm
      exact W.zret hx hb hr (by decide) (fun t9 ht hW => ⟨⟨_, (), rfl, e3.symm, trivial⟩, hS.F ht⟩) hS.2.2 d_Model_isTurtle_15
    · replace hm := if_f c_2 hm
      refine lv_iconst (v := 1) hx hb d_Model_isTurtle_10 (by decide) ?_
      refine lv_goto (tgt := 15) hx hb d_Model_isTurtle_11 (by decide) ?_
      have e3 := re1 hm
      exact W.zret hx hb hr (by decide) (fun t9 ht hW => ⟨⟨_, (), rfl, e3.symm, trivial⟩, hS.F ht⟩) hS.2.2 d_Model_isTurtle_15

def m_Model_out (n : Nat) (i : Nat → Int32) (j : Nat → Int64) (a : Nat → Nat → Int32) (b : Nat → Nat → Int64) (v1 : Int32) : Option ((Nat → Int32) × (Nat → Int64) × (Nat → Nat → Int32) × (Nat → Nat → Int64) × Int32) := ob1 (upd i 0 0 : Nat → Int32) (fun i_1 => if v1 < ((0 : Int32)) then some (i_1, j, a, b, (-1)) else ob0 (m_Math_min2 n (j 48) (2000 : Int64)) (fun r_4 => if ((lg_cmp v1.toInt64 r_4)) < ((0 : Int32)) then ck ((((((j 48) - 1) - v1.toInt64) - (((j 48) - 1) - v1.toInt64) / 2000 * 2000).toInt32)) 2000 (some (i_1, j, a, b, a 45 (((((j 48) - 1) - v1.toInt64) - (((j 48) - 1) - v1.toInt64) / 2000 * 2000).toInt32).toNatClampNeg)) else some (i_1, j, a, b, (-1))))
set_option maxHeartbeats 4000000 in
set_option maxRecDepth 100000 in
theorem x_Model_out (l : Launch) (dC : Nat → ClassId) (dI : Nat → Nat → Nat) (cI cJ cB : ClassId) (adK adV adA : Nat → Nat) (h : Nat) (v : Nat → Nat) (sz : Nat) (n : Nat) {i : Nat → Int32} {j : Nat → Int64} {a : Nat → Nat → Int32} {b : Nat → Nat → Int64} {v1 : Int32} {i2 : Nat → Int32} {j2 : Nat → Int64} {a2 : Nat → Nat → Int32} {b2 : Nat → Nat → Int64} {r2 : Int32} (hm : m_Model_out n i j a b v1 = some (i2, j2, a2, b2, r2)) : Met l y_Model_out w_Model_out ({ frames := 1, cells := 0, slots := 0, locals := 23 } : Room) (va_Pc [.ref h, .int v1] (yE dC dI cI cJ cB adK adV adA h v i j a b sz)) (va_Qi (xR r2) (yB dC dI cI cJ cB h v i2 j2 a2 b2 (va_A (MW cI cJ cB h v i j a b) sz)) (va_A (MW cI cJ cB h v i j a b) sz)) 0 0 ((va_A (MW cI cJ cB h v i j a b) sz)) := by
  refine Met.ofW (cc := b_Model_out) (maxL := 2) (ret := (some .int)) (by decide) rfl ?_
  intro p e s m args below meth c s₁ B hml hv
  obtain ⟨rfl, hsz, hP, hK, hE, hD0⟩ := hv
  have hx := B.exec
  have hb := B.bytes
  have hr := B.returns
  have hts := atoms_spec (ws := w_Model_out) B.pre
  have htt : ∀ w ∈ tw_T, w.before _ s = true := fun w h => hts w (List.mem_cons_of_mem _ h)
  have hown : s.vm.findClass R_Model = some m.cls := findClass_of_methodNamed B.named
  have hlocks := B.notSynchronized
  subst hsz
  have hD := hD0.self (sz := s.heap.size)
  generalize hAe : (va_A (MW cI cJ cB h v i j a b) s.heap.size) = A at hD hE ⊢
  have hA : ∀ q : Nat, s.heap.size ≤ q → A q := fun q h => by rw [← hAe]; exact Or.inr h
  have hS : va_S A s.heap s.heap [] := va_S.rf
  have hl := lv_entry ([.ref h, .int v1]) (n := 2) (Nat.le_of_ble_eq_true rfl)
  rw [lg_entry_eq]
  generalize (lg_sl ([.ref h, .int v1]) ++ List.replicate (2 - (lg_sl ([.ref h, .int v1])).length) Slot.unset).toArray = ls at hl ⊢
  have hl : lv_has ls 2 [(0, .ref h), (1, .int v1)] := hl
  rw [m_Model_out] at hm
  refine lv_aload_n hx hb d_Model_out_0 rfl (lv_at hl 0 rfl) ?_
  refine lv_iconst (v := 0) hx hb d_Model_out_1 (by decide) ?_
  refine va_put (D := (dC, dI)) (ci := 12) (v := .int 0) (ty := .int) (C := R_Model) (T := F_Model) (N := 127) hx hb htt iw_Model t_Model t_Model_ok n_Model hown hK hP hD hS 0 yo_12 rfl 0 (Nat.le_of_ble_eq_true rfl) (htt _ lk_Model_1) (fun _ h9 => h9) rfl (by decide +kernel) rfl rfl yl_0 d_Model_out_2 (fun H locs hP hD hS => ?_)
  obtain ⟨i_1, ei_1⟩ : ∃ y9 : Nat → Int32, y9 = upd i 0 0 := ⟨_, rfl⟩
  replace hm := ob1_at ei_1 hm
  obtain ⟨hP, hD⟩ := yw_0 ei_1 hP hD
  refine lv_iload_n hx hb d_Model_out_5 rfl (lv_at hl 1 rfl) ?_
  refine lv_if_lt (tgt := 25) hx hb d_Model_out_6 (by decide) (fun c_2 => ?_) (fun c_2 => ?_)
  · replace hm := if_t c_2 hm
    refine lv_iconst (v := -1) hx hb d_Model_out_25 (by decide) ?_
    refine lv_goto (tgt := 48) hx hb d_Model_out_26 (by decide) ?_
    obtain ⟨e1i, e1j, e1a, e1b, e3⟩ := re4m hm
    obtain ⟨hP, hD⟩ := y_eq e1i e1j e1a e1b hP hD
    exact W.iret hx hb hr (fun t9 ht hW => ⟨⟨_, (), rfl, e3.symm, by rw [ht]; exact hP, hD⟩, hS.F ht⟩) hS.2.2 d_Model_out_48
  · replace hm := if_f c_2 hm
    refine lv_iload_n hx hb d_Model_out_9 rfl (lv_at hl 1 rfl) ?_
    refine lv_i2l hx hb d_Model_out_10 rfl ?_
    refine lv_aload_n hx hb d_Model_out_11 rfl (lv_at hl 0 rfl) ?_
    refine va_get (D := (dC, dI)) (ci := 12) (v := .long (j 48)) (C := R_Model) (T := F_Model) (N := 127) hx hb htt iw_Model hown hK hP 0 yo_12 rfl 48 (Nat.le_of_ble_eq_true rfl) (htt _ lk_Model_356) (fun _ h9 => h9) yg_48 d_Model_out_12 ?_
    refine lv_ldc2 (v := 2000) hx hb hown (htt _ lk_Model_789) d_Model_out_15 ?_
    obtain ⟨r_4, h_3, hm⟩ := ob0_some hm
    have hFc := x_free0 hS hA
    refine va_calll (va_runS (As := [.long (j 48), .long 2000]) (rest := [.long v1.toInt64]) ⟨hx, hb, hml, hown, hts⟩ (x_Math_min2 l H.size n h_3) (va_cwS 2 hts (tw_GS tw_cons cw_Math_min2 lk_Model_140 st_Math_min2 ini_Math) rfl rfl rfl hd_Math_min2 ⟨Nat.le_of_ble_eq_true rfl, Nat.le_of_ble_eq_true rfl⟩) xpS0 rfl rfl hl.1 rfl (lv_room (Nat.le_of_ble_eq_true rfl)) d_Model_out_18 ⟨Nat.le_of_ble_eq_true rfl, Nat.le_of_ble_eq_true rfl⟩) hS (fun q _ h => hFc q h) hFc (fun r9 u9 t9 H locs ht hvm e9 hB hz1 hk1 hS => ?_)
    have e9 : r_4 = r9 := e9
    subst e9
    replace hP := x_keep hP hk1
    clear hFc hk1 hz1 hvm hB ht
    refine W.lcmp hx hb d_Model_out_21 ?_
    refine lv_if_lt (tgt := 29) hx hb d_Model_out_22 (by decide) (fun c_5 => ?_) (fun c_5 => ?_)
    · replace hm := if_t c_5 hm
      refine lv_aload_n hx hb d_Model_out_29 rfl (lv_at hl 0 rfl) ?_
      refine va_get (D := (dC, dI)) (ci := 12) (v := .ref ((v 45))) (C := R_Model) (T := F_Model) (N := 127) hx hb htt iw_Model hown hK hP 0 yo_12 rfl 45 (Nat.le_of_ble_eq_true rfl) (htt _ lk_Model_225) (fun _ h9 => h9) yg_45 d_Model_out_30 ?_
      refine lv_aload_n hx hb d_Model_out_33 rfl (lv_at hl 0 rfl) ?_
      refine va_get (D := (dC, dI)) (ci := 12) (v := .long (j 48)) (C := R_Model) (T := F_Model) (N := 127) hx hb htt iw_Model hown hK hP 0 yo_12 rfl 48 (Nat.le_of_ble_eq_true rfl) (htt _ lk_Model_356) (fun _ h9 => h9) yg_48 d_Model_out_34 ?_
      refine lv_lconst (v := 1) hx hb d_Model_out_37 (by decide) ?_
      refine lv_lsub hx hb d_Model_out_38 ?_
      refine lv_iload_n hx hb d_Model_out_39 rfl (lv_at hl 1 rfl) ?_
      refine lv_i2l hx hb d_Model_out_40 rfl ?_
      refine lv_lsub hx hb d_Model_out_41 ?_
      refine lv_ldc2 (v := 2000) hx hb hown (htt _ lk_Model_789) d_Model_out_42 ?_
      refine lv_lrem hx hb d_Model_out_45 (by decide) ?_
      refine lv_l2i hx hb d_Model_out_46 rfl ?_
      obtain ⟨h_6, hm⟩ := ck_some hm
      refine va_bald hx hb hK hP 37 2 ya_45 rfl h_6 d_Model_out_47 ?_
      obtain ⟨e1i, e1j, e1a, e1b, e3⟩ := re4m hm
      obtain ⟨hP, hD⟩ := y_eq e1i e1j e1a e1b hP hD
      exact W.iret hx hb hr (fun t9 ht hW => ⟨⟨_, (), rfl, e3.symm, by rw [ht]; exact hP, hD⟩, hS.F ht⟩) hS.2.2 d_Model_out_48
    · replace hm := if_f c_5 hm
      refine lv_iconst (v := -1) hx hb d_Model_out_25 (by decide) ?_
      refine lv_goto (tgt := 48) hx hb d_Model_out_26 (by decide) ?_
      obtain ⟨e1i, e1j, e1a, e1b, e3⟩ := re4m hm
      obtain ⟨hP, hD⟩ := y_eq e1i e1j e1a e1b hP hD
      exact W.iret hx hb hr (fun t9 ht hW => ⟨⟨_, (), rfl, e3.symm, by rw [ht]; exact hP, hD⟩, hS.F ht⟩) hS.2.2 d_Model_out_48

def m_Model_name (n : Nat) (i : Nat → Int32) (j : Nat → Int64) (a : Nat → Nat → Int32) (b : Nat → Nat → Int64) (v1 : Int32) (v2 : Int32) : Option ((Nat → Int32) × (Nat → Int64) × (Nat → Nat → Int32) × (Nat → Nat → Int64) × Int32) := ob1 (upd i 0 0 : Nat → Int32) (fun i_1 => if v1 < ((0 : Int32)) then some (i_1, j, a, b, (-1)) else if ((i_1 36)) ≤ v1 then some (i_1, j, a, b, (-1)) else if v2 < ((0 : Int32)) then some (i_1, j, a, b, (-1)) else ck v1 64 (ck ((a 34 v1.toNatClampNeg)) 120000 (if v2 < ((a 4 (a 34 v1.toNatClampNeg).toNatClampNeg)) then ck v1 64 (ck ((a 34 v1.toNatClampNeg)) 120000 (ck (((a 3 (a 34 v1.toNatClampNeg).toNatClampNeg) + v2)) 300000 (some (i_1, j, a, b, a 1 ((a 3 (a 34 v1.toNatClampNeg).toNatClampNeg) + v2).toNatClampNeg)))) else some (i_1, j, a, b, (-1)))))
set_option maxHeartbeats 4000000 in
set_option maxRecDepth 100000 in
theorem x_Model_name (l : Launch) (dC : Nat → ClassId) (dI : Nat → Nat → Nat) (cI cJ cB : ClassId) (adK adV adA : Nat → Nat) (h : Nat) (v : Nat → Nat) (sz : Nat) (n : Nat) {i : Nat → Int32} {j : Nat → Int64} {a : Nat → Nat → Int32} {b : Nat → Nat → Int64} {v1 : Int32} {v2 : Int32} {i2 : Nat → Int32} {j2 : Nat → Int64} {a2 : Nat → Nat → Int32} {b2 : Nat → Nat → Int64} {r2 : Int32} (hm : m_Model_name n i j a b v1 v2 = some (i2, j2, a2, b2, r2)) : Met l y_Model_name w_Model_name ({ frames := 0, cells := 0, slots := 0, locals := 0 } : Room) (va_Pc [.ref h, .int v1, .int v2] (yE dC dI cI cJ cB adK adV adA h v i j a b sz)) (va_Qi (xR r2) (yB dC dI cI cJ cB h v i2 j2 a2 b2 (va_A (MW cI cJ cB h v i j a b) sz)) (va_A (MW cI cJ cB h v i j a b) sz)) 0 0 ((va_A (MW cI cJ cB h v i j a b) sz)) := by
  refine Met.ofW (cc := b_Model_name) (maxL := 3) (ret := (some .int)) (by decide) rfl ?_
  intro p e s m args below meth c s₁ B hml hv
  obtain ⟨rfl, hsz, hP, hK, hE, hD0⟩ := hv
  have hx := B.exec
  have hb := B.bytes
  have hr := B.returns
  have hts := atoms_spec (ws := w_Model_name) B.pre
  have htt : ∀ w ∈ tw_T, w.before _ s = true := fun w h => hts w (List.mem_cons_of_mem _ h)
  have hown : s.vm.findClass R_Model = some m.cls := findClass_of_methodNamed B.named
  have hlocks := B.notSynchronized
  subst hsz
  have hD := hD0.self (sz := s.heap.size)
  generalize hAe : (va_A (MW cI cJ cB h v i j a b) s.heap.size) = A at hD hE ⊢
  have hA : ∀ q : Nat, s.heap.size ≤ q → A q := fun q h => by rw [← hAe]; exact Or.inr h
  have hS : va_S A s.heap s.heap [] := va_S.rf
  have hl := lv_entry ([.ref h, .int v1, .int v2]) (n := 3) (Nat.le_of_ble_eq_true rfl)
  rw [lg_entry_eq]
  generalize (lg_sl ([.ref h, .int v1, .int v2]) ++ List.replicate (3 - (lg_sl ([.ref h, .int v1, .int v2])).length) Slot.unset).toArray = ls at hl ⊢
  have hl : lv_has ls 3 [(0, .ref h), (1, .int v1), (2, .int v2)] := hl
  rw [m_Model_name] at hm
  refine lv_aload_n hx hb d_Model_name_0 rfl (lv_at hl 0 rfl) ?_
  refine lv_iconst (v := 0) hx hb d_Model_name_1 (by decide) ?_
  refine va_put (D := (dC, dI)) (ci := 12) (v := .int 0) (ty := .int) (C := R_Model) (T := F_Model) (N := 127) hx hb htt iw_Model t_Model t_Model_ok n_Model hown hK hP hD hS 0 yo_12 rfl 0 (Nat.le_of_ble_eq_true rfl) (htt _ lk_Model_1) (fun _ h9 => h9) rfl (by decide +kernel) rfl rfl yl_0 d_Model_name_2 (fun H locs hP hD hS => ?_)
  obtain ⟨i_1, ei_1⟩ : ∃ y9 : Nat → Int32, y9 = upd i 0 0 := ⟨_, rfl⟩
  replace hm := ob1_at ei_1 hm
  obtain ⟨hP, hD⟩ := yw_0 ei_1 hP hD
  refine lv_iload_n hx hb d_Model_name_5 rfl (lv_at hl 1 rfl) ?_
  refine lv_if_lt (tgt := 36) hx hb d_Model_name_6 (by decide) (fun c_2 => ?_) (fun c_2 => ?_)
  · replace hm := if_t c_2 hm
    refine lv_iconst (v := -1) hx hb d_Model_name_36 (by decide) ?_
    refine lv_goto (tgt := 58) hx hb d_Model_name_37 (by decide) ?_
    obtain ⟨e1i, e1j, e1a, e1b, e3⟩ := re4m hm
    obtain ⟨hP, hD⟩ := y_eq e1i e1j e1a e1b hP hD
    exact W.iret hx hb hr (fun t9 ht hW => ⟨⟨_, (), rfl, e3.symm, by rw [ht]; exact hP, hD⟩, hS.F ht⟩) hS.2.2 d_Model_name_58
  · replace hm := if_f c_2 hm
    refine lv_iload_n hx hb d_Model_name_9 rfl (lv_at hl 1 rfl) ?_
    refine lv_aload_n hx hb d_Model_name_10 rfl (lv_at hl 0 rfl) ?_
    refine va_get (D := (dC, dI)) (ci := 12) (v := .int (i_1 36)) (C := R_Model) (T := F_Model) (N := 127) hx hb htt iw_Model hown hK hP 0 yo_12 rfl 36 (Nat.le_of_ble_eq_true rfl) (htt _ lk_Model_350) (fun _ h9 => h9) yg_36 d_Model_name_11 ?_
    refine lv_icmp_ge (tgt := 36) hx hb d_Model_name_14 (by decide) (fun c_3 => ?_) (fun c_3 => ?_)
    · replace hm := if_t c_3 hm
      refine lv_iconst (v := -1) hx hb d_Model_name_36 (by decide) ?_
      refine lv_goto (tgt := 58) hx hb d_Model_name_37 (by decide) ?_
      obtain ⟨e1i, e1j, e1a, e1b, e3⟩ := re4m hm
      obtain ⟨hP, hD⟩ := y_eq e1i e1j e1a e1b hP hD
      exact W.iret hx hb hr (fun t9 ht hW => ⟨⟨_, (), rfl, e3.symm, by rw [ht]; exact hP, hD⟩, hS.F ht⟩) hS.2.2 d_Model_name_58
    · replace hm := if_f c_3 hm
      refine lv_iload_n hx hb d_Model_name_17 rfl (lv_at hl 2 rfl) ?_
      refine lv_if_lt (tgt := 36) hx hb d_Model_name_18 (by decide) (fun c_4 => ?_) (fun c_4 => ?_)
      · replace hm := if_t c_4 hm
        refine lv_iconst (v := -1) hx hb d_Model_name_36 (by decide) ?_
        refine lv_goto (tgt := 58) hx hb d_Model_name_37 (by decide) ?_
        obtain ⟨e1i, e1j, e1a, e1b, e3⟩ := re4m hm
        obtain ⟨hP, hD⟩ := y_eq e1i e1j e1a e1b hP hD
        exact W.iret hx hb hr (fun t9 ht hW => ⟨⟨_, (), rfl, e3.symm, by rw [ht]; exact hP, hD⟩, hS.F ht⟩) hS.2.2 d_Model_name_58
      · replace hm := if_f c_4 hm
        refine lv_iload_n hx hb d_Model_name_21 rfl (lv_at hl 2 rfl) ?_
        refine lv_aload_n hx hb d_Model_name_22 rfl (lv_at hl 0 rfl) ?_
        refine va_get (D := (dC, dI)) (ci := 12) (v := .ref ((v 4))) (C := R_Model) (T := F_Model) (N := 127) hx hb htt iw_Model hown hK hP 0 yo_12 rfl 4 (Nat.le_of_ble_eq_true rfl) (htt _ lk_Model_22) (fun _ h9 => h9) yg_4 d_Model_name_23 ?_
        refine lv_aload_n hx hb d_Model_name_26 rfl (lv_at hl 0 rfl) ?_
        refine va_get (D := (dC, dI)) (ci := 12) (v := .ref ((v 34))) (C := R_Model) (T := F_Model) (N := 127) hx hb htt iw_Model hown hK hP 0 yo_12 rfl 34 (Nat.le_of_ble_eq_true rfl) (htt _ lk_Model_195) (fun _ h9 => h9) yg_34 d_Model_name_27 ?_
        refine lv_iload_n hx hb d_Model_name_30 rfl (lv_at hl 1 rfl) ?_
        obtain ⟨h_5, hm⟩ := ck_some hm
        refine va_iald hx hb hK hP 27 0 ya_34 rfl h_5 d_Model_name_31 ?_
        obtain ⟨h_6, hm⟩ := ck_some hm
        refine va_iald hx hb hK hP 4 0 ya_4 rfl h_6 d_Model_name_32 ?_
        refine lv_icmp_lt (tgt := 40) hx hb d_Model_name_33 (by decide) (fun c_7 => ?_) (fun c_7 => ?_)
        · replace hm := if_t c_7 hm
          refine lv_aload_n hx hb d_Model_name_40 rfl (lv_at hl 0 rfl) ?_
          refine va_get (D := (dC, dI)) (ci := 12) (v := .ref ((v 1))) (C := R_Model) (T := F_Model) (N := 127) hx hb htt iw_Model hown hK hP 0 yo_12 rfl 1 (Nat.le_of_ble_eq_true rfl) (htt _ lk_Model_67) (fun _ h9 => h9) yg_1 d_Model_name_41 ?_
          refine lv_aload_n hx hb d_Model_name_44 rfl (lv_at hl 0 rfl) ?_
          refine va_get (D := (dC, dI)) (ci := 12) (v := .ref ((v 3))) (C := R_Model) (T := F_Model) (N := 127) hx hb htt iw_Model hown hK hP 0 yo_12 rfl 3 (Nat.le_of_ble_eq_true rfl) (htt _ lk_Model_15) (fun _ h9 => h9) yg_3 d_Model_name_45 ?_
          refine lv_aload_n hx hb d_Model_name_48 rfl (lv_at hl 0 rfl) ?_
          refine va_get (D := (dC, dI)) (ci := 12) (v := .ref ((v 34))) (C := R_Model) (T := F_Model) (N := 127) hx hb htt iw_Model hown hK hP 0 yo_12 rfl 34 (Nat.le_of_ble_eq_true rfl) (htt _ lk_Model_195) (fun _ h9 => h9) yg_34 d_Model_name_49 ?_
          refine lv_iload_n hx hb d_Model_name_52 rfl (lv_at hl 1 rfl) ?_
          obtain ⟨h_8, hm⟩ := ck_some hm
          refine va_iald hx hb hK hP 27 0 ya_34 rfl h_8 d_Model_name_53 ?_
          obtain ⟨h_9, hm⟩ := ck_some hm
          refine va_iald hx hb hK hP 3 0 ya_3 rfl h_9 d_Model_name_54 ?_
          refine lv_iload_n hx hb d_Model_name_55 rfl (lv_at hl 2 rfl) ?_
          refine lv_iadd hx hb d_Model_name_56 ?_
          obtain ⟨h_10, hm⟩ := ck_some hm
          refine va_bald hx hb hK hP 1 2 ya_1 rfl h_10 d_Model_name_57 ?_
          obtain ⟨e1i, e1j, e1a, e1b, e3⟩ := re4m hm
          obtain ⟨hP, hD⟩ := y_eq e1i e1j e1a e1b hP hD
          exact W.iret hx hb hr (fun t9 ht hW => ⟨⟨_, (), rfl, e3.symm, by rw [ht]; exact hP, hD⟩, hS.F ht⟩) hS.2.2 d_Model_name_58
        · replace hm := if_f c_7 hm
          refine lv_iconst (v := -1) hx hb d_Model_name_36 (by decide) ?_
          refine lv_goto (tgt := 58) hx hb d_Model_name_37 (by decide) ?_
          obtain ⟨e1i, e1j, e1a, e1b, e3⟩ := re4m hm
          obtain ⟨hP, hD⟩ := y_eq e1i e1j e1a e1b hP hD
          exact W.iret hx hb hr (fun t9 ht hW => ⟨⟨_, (), rfl, e3.symm, by rw [ht]; exact hP, hD⟩, hS.F ht⟩) hS.2.2 d_Model_name_58

def m_Model_call_b74 (n : Nat) (rc_37 : (Nat → Int32) → (Nat → Int64) → (Nat → Nat → Int32) → (Nat → Nat → Int64) → Int32 → Int32 → Int32 → Int32 → Option ((Nat → Int32) × (Nat → Int64) × (Nat → Nat → Int32) × (Nat → Nat → Int64) × Int32)) (i : Nat → Int32) (j : Nat → Int64) (a : Nat → Nat → Int32) (b : Nat → Nat → Int64) (v2 : Int32) (v3 : Int32) (v5 : Int32) (s0 : Int32) (s1 : Int32) : Option ((Nat → Int32) × (Nat → Int64) × (Nat → Nat → Int32) × (Nat → Nat → Int64) × Int32) := ob1 (s1 + s0 : Int32) (fun x_1 => ob1 (v5 + 1 : Int32) (fun x_2 => rc_37 i j a b v2 v3 x_1 x_2))
set_option maxHeartbeats 4000000 in
set_option maxRecDepth 100000 in
theorem lb_Model_call_74 (l : Launch) (dC : Nat → ClassId) (dI : Nat → Nat → Nat) (cI cJ cB : ClassId) (adK adV adA : Nat → Nat) (h : Nat) (v : Nat → Nat) (n : Nat) {p : Program} {e : Env} {s : State} {m : MethodId} {args : Array Value} {below : List Frame} {meth : Method} {c : Code} {A : Nat → Prop} (hx : p.tables.exec = Jvm.exec) (hb : c.code = b_Model_call) (hml : c.maxLocals = 6) (hown : s.vm.findClass R_Model = some m.cls) (hts : ∀ w ∈ w_Model_call, w.before args s = true) (hK : va_K (dC, dI) classes [(cI, .int), (cJ, .long), (cB, .byte)] s) (hE : tw_E adK adV adA A s s.heap) (hA : ∀ q : Nat, s.heap.size ≤ q → A q) (hr : meth.sig.returnType = (some .int)) (hlocks : meth.locks = false) {i2 : Nat → Int32} {j2 : Nat → Int64} {a2 : Nat → Nat → Int32} {b2 : Nat → Nat → Int64} {r2 : Int32} (rc_37 : (Nat → Int32) → (Nat → Int64) → (Nat → Nat → Int32) → (Nat → Nat → Int64) → Int32 → Int32 → Int32 → Int32 → Option ((Nat → Int32) × (Nat → Int64) × (Nat → Nat → Int32) × (Nat → Nat → Int64) × Int32)) (Hrc_37 : ∀ (i : Nat → Int32) (j : Nat → Int64) (a : Nat → Nat → Int32) (b : Nat → Nat → Int64) (v2 : Int32) (v3 : Int32) (v4 : Int32) (v5 : Int32), rc_37 i j a b v2 v3 v4 v5 = some (i2, j2, a2, b2, r2) → ∀ (H : Heap) (locs : List Loc) (ls : Array Slot), va_P (dC, dI) classes (MW cI cJ cB h v i j a b) H → va_D A (MW cI cJ cB h v i j a b) → va_S A s.heap H locs → lv_has ls 6 [(0, .ref h), (2, .int v2), (3, .int v3), (4, .int v4), (5, .int v5)] → W p l e ({ frames := 0, cells := 0, slots := 0, locals := 0 } : Room) s m args below meth c H locs 0 0 (MQ below (va_Qi (xR r2) (yB dC dI cI cJ cB h v i2 j2 a2 b2 A) A) args s 0 0 A) (F0 m 37 ls [])) (i : Nat → Int32) (j : Nat → Int64) (a : Nat → Nat → Int32) (b : Nat → Nat → Int64) (v2 : Int32) (v3 : Int32) (v5 : Int32) (s0 : Int32) (s1 : Int32) (hm : m_Model_call_b74 n rc_37 i j a b v2 v3 v5 s0 s1 = some (i2, j2, a2, b2, r2)) : ∀ (H : Heap) (locs : List Loc) (ls : Array Slot), va_P (dC, dI) classes (MW cI cJ cB h v i j a b) H → va_D A (MW cI cJ cB h v i j a b) → va_S A s.heap H locs → lv_has ls 6 [(0, .ref h), (2, .int v2), (3, .int v3), (5, .int v5)] → W p l e ({ frames := 0, cells := 0, slots := 0, locals := 0 } : Room) s m args below meth c H locs 0 0 (MQ below (va_Qi (xR r2) (yB dC dI cI cJ cB h v i2 j2 a2 b2 A) A) args s 0 0 A) (F0 m 74 ls [.int s0, .int s1]) := by
  have htt : ∀ w ∈ tw_T, w.before _ s = true := fun w h => hts w (List.mem_cons_of_mem _ h)
  intro H locs ls hP hD hS hl
  rw [m_Model_call_b74] at hm
  refine lv_iadd hx hb d_Model_call_74 ?_
  refine lv_topi (fun x_1 ex_1 => ?_)
  replace hm := ob1_at ex_1 hm
  refine lv_istore (lv' := [(4, .int x_1), (0, .ref h), (2, .int v2), (3, .int v3), (5, .int v5)]) hx hb d_Model_call_75 hl (by decide) rfl (fun ls hl => ?_)
  obtain ⟨x_2, ex_2⟩ : ∃ y9 : Int32, y9 = v5 + 1 := ⟨_, rfl⟩
  replace hm := ob1_at ex_2 hm
  refine lv_iinc (v := x_2) (lv' := [(5, .int x_2), (4, .int x_1), (0, .ref h), (2, .int v2), (3, .int v3)]) hx hb d_Model_call_77 hl (k := 4) rfl (by rw [ex_2]; rfl) (by decide) rfl (fun ls hl => ?_)
  refine lv_goto (tgt := 37) hx hb d_Model_call_80 (by decide) ?_
  exact Hrc_37 _ _ _ _ _ _ _ _ hm _ _ _ hP hD hS (lv_sub hl [2, 3, 4, 1, 0] rfl)
def m_Model_call_b37 (n : Nat) : Nat → (Nat → Int32) → (Nat → Int64) → (Nat → Nat → Int32) → (Nat → Nat → Int64) → Int32 → Int32 → Int32 → Int32 → Option ((Nat → Int32) × (Nat → Int64) × (Nat → Nat → Int32) × (Nat → Nat → Int64) × Int32)
  | 0, _, _, _, _, _, _, _, _ => none
  | f + 1, i, j, a, b, v2, v3, v4, v5 => ck v3 150 (if (((12 * v3) + (a 113 v3.toNatClampNeg))) ≤ v5 then if v2 = ((0 : Int32)) then ck v3 150 (some (i, j, a, b, a 112 v3.toNatClampNeg)) else if v2 = ((1 : Int32)) then ck v3 150 (some (i, j, a, b, a 113 v3.toNatClampNeg)) else if v2 = ((2 : Int32)) then some (i, j, a, b, v4) else some (i, j, a, b, (-1)) else ck v5 1800 (if ((lg_cmp (b 115 v5.toNatClampNeg) 3)) = ((0 : Int32)) then m_Model_call_b74 n (m_Model_call_b37 n f) i j a b v2 v3 v5 (0 : Int32) v4 else m_Model_call_b74 n (m_Model_call_b37 n f) i j a b v2 v3 v5 (1 : Int32) v4))
set_option maxHeartbeats 4000000 in
set_option maxRecDepth 100000 in
theorem lb_Model_call_37 (l : Launch) (dC : Nat → ClassId) (dI : Nat → Nat → Nat) (cI cJ cB : ClassId) (adK adV adA : Nat → Nat) (h : Nat) (v : Nat → Nat) (n : Nat) {p : Program} {e : Env} {s : State} {m : MethodId} {args : Array Value} {below : List Frame} {meth : Method} {c : Code} {A : Nat → Prop} (hx : p.tables.exec = Jvm.exec) (hb : c.code = b_Model_call) (hml : c.maxLocals = 6) (hown : s.vm.findClass R_Model = some m.cls) (hts : ∀ w ∈ w_Model_call, w.before args s = true) (hK : va_K (dC, dI) classes [(cI, .int), (cJ, .long), (cB, .byte)] s) (hE : tw_E adK adV adA A s s.heap) (hA : ∀ q : Nat, s.heap.size ≤ q → A q) (hr : meth.sig.returnType = (some .int)) (hlocks : meth.locks = false) {i2 : Nat → Int32} {j2 : Nat → Int64} {a2 : Nat → Nat → Int32} {b2 : Nat → Nat → Int64} {r2 : Int32} : ∀ (f : Nat) (i : Nat → Int32) (j : Nat → Int64) (a : Nat → Nat → Int32) (b : Nat → Nat → Int64) (v2 : Int32) (v3 : Int32) (v4 : Int32) (v5 : Int32), m_Model_call_b37 n f i j a b v2 v3 v4 v5 = some (i2, j2, a2, b2, r2) → ∀ (H : Heap) (locs : List Loc) (ls : Array Slot), va_P (dC, dI) classes (MW cI cJ cB h v i j a b) H → va_D A (MW cI cJ cB h v i j a b) → va_S A s.heap H locs → lv_has ls 6 [(0, .ref h), (2, .int v2), (3, .int v3), (4, .int v4), (5, .int v5)] → W p l e ({ frames := 0, cells := 0, slots := 0, locals := 0 } : Room) s m args below meth c H locs 0 0 (MQ below (va_Qi (xR r2) (yB dC dI cI cJ cB h v i2 j2 a2 b2 A) A) args s 0 0 A) (F0 m 37 ls []) := by
  have htt : ∀ w ∈ tw_T, w.before _ s = true := fun w h => hts w (List.mem_cons_of_mem _ h)
  intro f
  induction f with
  | zero =>
    intro i j a b v2 v3 v4 v5 hm
    rw [m_Model_call_b37] at hm
    cases hm
  | succ f ih =>
    intro i j a b v2 v3 v4 v5 hm H locs ls hP hD hS hl
    rw [m_Model_call_b37] at hm
    refine lv_iload hx hb d_Model_call_37 (lv_at hl 4 rfl) ?_
    refine lv_bipush (v := 12) hx hb d_Model_call_39 (by decide) ?_
    refine lv_iload_n hx hb d_Model_call_41 rfl (lv_at hl 2 rfl) ?_
    refine lv_imul hx hb d_Model_call_42 ?_
    refine lv_aload_n hx hb d_Model_call_43 rfl (lv_at hl 0 rfl) ?_
    refine va_get (D := (dC, dI)) (ci := 12) (v := .ref ((v 113))) (C := R_Model) (T := F_Model) (N := 127) hx hb htt iw_Model hown hK hP 0 yo_12 rfl 113 (Nat.le_of_ble_eq_true rfl) (htt _ lk_Model_307) (fun _ h9 => h9) yg_113 d_Model_call_44 ?_
    refine lv_iload_n hx hb d_Model_call_47 rfl (lv_at hl 2 rfl) ?_
    obtain ⟨h_1, hm⟩ := ck_some hm
    refine va_iald hx hb hK hP 63 0 ya_113 rfl h_1 d_Model_call_48 ?_
    refine lv_iadd hx hb d_Model_call_49 ?_
    refine lv_icmp_ge (tgt := 83) hx hb d_Model_call_50 (by decide) (fun c_2 => ?_) (fun c_2 => ?_)
    · replace hm := if_t c_2 hm
      refine lv_iload_n hx hb d_Model_call_83 rfl (lv_at hl 1 rfl) ?_
      refine lv_if_ne (tgt := 96) hx hb d_Model_call_84 (by decide) (fun c_3 => ?_) (fun c_3 => ?_)
      · replace hm := if_f c_3 hm
        refine lv_iload_n hx hb d_Model_call_96 rfl (lv_at hl 1 rfl) ?_
        refine lv_iconst (v := 1) hx hb d_Model_call_97 (by decide) ?_
        refine lv_icmp_ne (tgt := 110) hx hb d_Model_call_98 (by decide) (fun c_4 => ?_) (fun c_4 => ?_)
        · replace hm := if_f c_4 hm
          refine lv_iload_n hx hb d_Model_call_110 rfl (lv_at hl 1 rfl) ?_
          refine lv_iconst (v := 2) hx hb d_Model_call_111 (by decide) ?_
          refine lv_icmp_ne (tgt := 120) hx hb d_Model_call_112 (by decide) (fun c_5 => ?_) (fun c_5 => ?_)
          · replace hm := if_f c_5 hm
            refine lv_iconst (v := -1) hx hb d_Model_call_120 (by decide) ?_
            obtain ⟨e1i, e1j, e1a, e1b, e3⟩ := re4m hm
            obtain ⟨hP, hD⟩ := y_eq e1i e1j e1a e1b hP hD
            exact W.iret hx hb hr (fun t9 ht hW => ⟨⟨_, (), rfl, e3.symm, by rw [ht]; exact hP, hD⟩, hS.F ht⟩) hS.2.2 d_Model_call_121
          · replace hm := if_t c_5 hm
            refine lv_iload hx hb d_Model_call_115 (lv_at hl 3 rfl) ?_
            refine lv_goto (tgt := 121) hx hb d_Model_call_117 (by decide) ?_
            obtain ⟨e1i, e1j, e1a, e1b, e3⟩ := re4m hm
            obtain ⟨hP, hD⟩ := y_eq e1i e1j e1a e1b hP hD
            exact W.iret hx hb hr (fun t9 ht hW => ⟨⟨_, (), rfl, e3.symm, by rw [ht]; exact hP, hD⟩, hS.F ht⟩) hS.2.2 d_Model_call_121
        · replace hm := if_t c_4 hm
          refine lv_aload_n hx hb d_Model_call_101 rfl (lv_at hl 0 rfl) ?_
          refine va_get (D := (dC, dI)) (ci := 12) (v := .ref ((v 113))) (C := R_Model) (T := F_Model) (N := 127) hx hb htt iw_Model hown hK hP 0 yo_12 rfl 113 (Nat.le_of_ble_eq_true rfl) (htt _ lk_Model_307) (fun _ h9 => h9) yg_113 d_Model_call_102 ?_
          refine lv_iload_n hx hb d_Model_call_105 rfl (lv_at hl 2 rfl) ?_
          obtain ⟨h_6, hm⟩ := ck_some hm
          refine va_iald hx hb hK hP 63 0 ya_113 rfl h_6 d_Model_call_106 ?_
          refine lv_goto (tgt := 121) hx hb d_Model_call_107 (by decide) ?_
          obtain ⟨e1i, e1j, e1a, e1b, e3⟩ := re4m hm
          obtain ⟨hP, hD⟩ := y_eq e1i e1j e1a e1b hP hD
          exact W.iret hx hb hr (fun t9 ht hW => ⟨⟨_, (), rfl, e3.symm, by rw [ht]; exact hP, hD⟩, hS.F ht⟩) hS.2.2 d_Model_call_121
      · replace hm := if_t c_3 hm
        refine lv_aload_n hx hb d_Model_call_87 rfl (lv_at hl 0 rfl) ?_
        refine va_get (D := (dC, dI)) (ci := 12) (v := .ref ((v 112))) (C := R_Model) (T := F_Model) (N := 127) hx hb htt iw_Model hown hK hP 0 yo_12 rfl 112 (Nat.le_of_ble_eq_true rfl) (htt _ lk_Model_304) (fun _ h9 => h9) yg_112 d_Model_call_88 ?_
        refine lv_iload_n hx hb d_Model_call_91 rfl (lv_at hl 2 rfl) ?_
        obtain ⟨h_7, hm⟩ := ck_some hm
        refine va_iald hx hb hK hP 62 0 ya_112 rfl h_7 d_Model_call_92 ?_
        refine lv_goto (tgt := 121) hx hb d_Model_call_93 (by decide) ?_
        obtain ⟨e1i, e1j, e1a, e1b, e3⟩ := re4m hm
        obtain ⟨hP, hD⟩ := y_eq e1i e1j e1a e1b hP hD
        exact W.iret hx hb hr (fun t9 ht hW => ⟨⟨_, (), rfl, e3.symm, by rw [ht]; exact hP, hD⟩, hS.F ht⟩) hS.2.2 d_Model_call_121
    · replace hm := if_f c_2 hm
      refine lv_iload hx hb d_Model_call_53 (lv_at hl 3 rfl) ?_
      refine lv_aload_n hx hb d_Model_call_55 rfl (lv_at hl 0 rfl) ?_
      refine va_get (D := (dC, dI)) (ci := 12) (v := .ref ((v 115))) (C := R_Model) (T := F_Model) (N := 127) hx hb htt iw_Model hown hK hP 0 yo_12 rfl 115 (Nat.le_of_ble_eq_true rfl) (htt _ lk_Model_313) (fun _ h9 => h9) yg_115 d_Model_call_56 ?_
      refine lv_iload hx hb d_Model_call_59 (lv_at hl 4 rfl) ?_
      obtain ⟨h_8, hm⟩ := ck_some hm
      refine va_lald hx hb hK hP 65 1 ya_115 rfl h_8 d_Model_call_61 ?_
      refine lv_ldc2 (v := 3) hx hb hown (htt _ lk_Model_7) d_Model_call_62 ?_
      refine W.lcmp hx hb d_Model_call_65 ?_
      refine lv_if_ne (tgt := 73) hx hb d_Model_call_66 (by decide) (fun c_9 => ?_) (fun c_9 => ?_)
      · replace hm := if_f c_9 hm
        refine lv_iconst (v := 1) hx hb d_Model_call_73 (by decide) ?_
        exact lb_Model_call_74 l dC dI cI cJ cB adK adV adA h v n hx hb hml hown hts hK hE hA hr hlocks (m_Model_call_b37 n f) ih _ _ _ _ _ _ _ _ _ hm _ _ _ hP hD hS (lv_sub hl [0, 1, 2, 4] rfl)
      · replace hm := if_t c_9 hm
        refine lv_iconst (v := 0) hx hb d_Model_call_69 (by decide) ?_
        refine lv_goto (tgt := 74) hx hb d_Model_call_70 (by decide) ?_
        exact lb_Model_call_74 l dC dI cI cJ cB adK adV adA h v n hx hb hml hown hts hK hE hA hr hlocks (m_Model_call_b37 n f) ih _ _ _ _ _ _ _ _ _ hm _ _ _ hP hD hS (lv_sub hl [0, 1, 2, 4] rfl)
def m_Model_call (n : Nat) (i : Nat → Int32) (j : Nat → Int64) (a : Nat → Nat → Int32) (b : Nat → Nat → Int64) (v1 : Int32) (v2 : Int32) : Option ((Nat → Int32) × (Nat → Int64) × (Nat → Nat → Int32) × (Nat → Nat → Int64) × Int32) := ob1 (upd i 0 0 : Nat → Int32) (fun i_1 => if v1 < ((0 : Int32)) then some (i_1, j, a, b, (-1)) else if v1 < ((i_1 99)) then ob1 (((i_1 99) - 1) - v1 : Int32) (fun x_4 => ob1 (12 * x_4 : Int32) (fun x_5 => m_Model_call_b37 n n i_1 j a b v2 x_4 (0 : Int32) x_5)) else some (i_1, j, a, b, (-1)))
set_option maxHeartbeats 4000000 in
set_option maxRecDepth 100000 in
theorem x_Model_call (l : Launch) (dC : Nat → ClassId) (dI : Nat → Nat → Nat) (cI cJ cB : ClassId) (adK adV adA : Nat → Nat) (h : Nat) (v : Nat → Nat) (sz : Nat) (n : Nat) {i : Nat → Int32} {j : Nat → Int64} {a : Nat → Nat → Int32} {b : Nat → Nat → Int64} {v1 : Int32} {v2 : Int32} {i2 : Nat → Int32} {j2 : Nat → Int64} {a2 : Nat → Nat → Int32} {b2 : Nat → Nat → Int64} {r2 : Int32} (hm : m_Model_call n i j a b v1 v2 = some (i2, j2, a2, b2, r2)) : Met l y_Model_call w_Model_call ({ frames := 0, cells := 0, slots := 0, locals := 0 } : Room) (va_Pc [.ref h, .int v1, .int v2] (yE dC dI cI cJ cB adK adV adA h v i j a b sz)) (va_Qi (xR r2) (yB dC dI cI cJ cB h v i2 j2 a2 b2 (va_A (MW cI cJ cB h v i j a b) sz)) (va_A (MW cI cJ cB h v i j a b) sz)) 0 0 ((va_A (MW cI cJ cB h v i j a b) sz)) := by
  refine Met.ofW (cc := b_Model_call) (maxL := 6) (ret := (some .int)) (by decide) rfl ?_
  intro p e s m args below meth c s₁ B hml hv
  obtain ⟨rfl, hsz, hP, hK, hE, hD0⟩ := hv
  have hx := B.exec
  have hb := B.bytes
  have hr := B.returns
  have hts := atoms_spec (ws := w_Model_call) B.pre
  have htt : ∀ w ∈ tw_T, w.before _ s = true := fun w h => hts w (List.mem_cons_of_mem _ h)
  have hown : s.vm.findClass R_Model = some m.cls := findClass_of_methodNamed B.named
  have hlocks := B.notSynchronized
  subst hsz
  have hD := hD0.self (sz := s.heap.size)
  generalize hAe : (va_A (MW cI cJ cB h v i j a b) s.heap.size) = A at hD hE ⊢
  have hA : ∀ q : Nat, s.heap.size ≤ q → A q := fun q h => by rw [← hAe]; exact Or.inr h
  have hS : va_S A s.heap s.heap [] := va_S.rf
  have hl := lv_entry ([.ref h, .int v1, .int v2]) (n := 6) (Nat.le_of_ble_eq_true rfl)
  rw [lg_entry_eq]
  generalize (lg_sl ([.ref h, .int v1, .int v2]) ++ List.replicate (6 - (lg_sl ([.ref h, .int v1, .int v2])).length) Slot.unset).toArray = ls at hl ⊢
  have hl : lv_has ls 6 [(0, .ref h), (1, .int v1), (2, .int v2)] := hl
  rw [m_Model_call] at hm
  refine lv_aload_n hx hb d_Model_call_0 rfl (lv_at hl 0 rfl) ?_
  refine lv_iconst (v := 0) hx hb d_Model_call_1 (by decide) ?_
  refine va_put (D := (dC, dI)) (ci := 12) (v := .int 0) (ty := .int) (C := R_Model) (T := F_Model) (N := 127) hx hb htt iw_Model t_Model t_Model_ok n_Model hown hK hP hD hS 0 yo_12 rfl 0 (Nat.le_of_ble_eq_true rfl) (htt _ lk_Model_1) (fun _ h9 => h9) rfl (by decide +kernel) rfl rfl yl_0 d_Model_call_2 (fun H locs hP hD hS => ?_)
  obtain ⟨i_1, ei_1⟩ : ∃ y9 : Nat → Int32, y9 = upd i 0 0 := ⟨_, rfl⟩
  replace hm := ob1_at ei_1 hm
  obtain ⟨hP, hD⟩ := yw_0 ei_1 hP hD
  refine lv_iload_n hx hb d_Model_call_5 rfl (lv_at hl 1 rfl) ?_
  refine lv_if_lt (tgt := 17) hx hb d_Model_call_6 (by decide) (fun c_2 => ?_) (fun c_2 => ?_)
  · replace hm := if_t c_2 hm
    refine lv_iconst (v := -1) hx hb d_Model_call_17 (by decide) ?_
    obtain ⟨e1i, e1j, e1a, e1b, e3⟩ := re4m hm
    obtain ⟨hP, hD⟩ := y_eq e1i e1j e1a e1b hP hD
    exact W.iret hx hb hr (fun t9 ht hW => ⟨⟨_, (), rfl, e3.symm, by rw [ht]; exact hP, hD⟩, hS.F ht⟩) hS.2.2 d_Model_call_18
  · replace hm := if_f c_2 hm
    refine lv_iload_n hx hb d_Model_call_9 rfl (lv_at hl 1 rfl) ?_
    refine lv_aload_n hx hb d_Model_call_10 rfl (lv_at hl 0 rfl) ?_
    refine va_get (D := (dC, dI)) (ci := 12) (v := .int (i_1 99)) (C := R_Model) (T := F_Model) (N := 127) hx hb htt iw_Model hown hK hP 0 yo_12 rfl 99 (Nat.le_of_ble_eq_true rfl) (htt _ lk_Model_538) (fun _ h9 => h9) yg_99 d_Model_call_11 ?_
    refine lv_icmp_lt (tgt := 19) hx hb d_Model_call_14 (by decide) (fun c_3 => ?_) (fun c_3 => ?_)
    · replace hm := if_t c_3 hm
      refine lv_aload_n hx hb d_Model_call_19 rfl (lv_at hl 0 rfl) ?_
      refine va_get (D := (dC, dI)) (ci := 12) (v := .int (i_1 99)) (C := R_Model) (T := F_Model) (N := 127) hx hb htt iw_Model hown hK hP 0 yo_12 rfl 99 (Nat.le_of_ble_eq_true rfl) (htt _ lk_Model_538) (fun _ h9 => h9) yg_99 d_Model_call_20 ?_
      refine lv_iconst (v := 1) hx hb d_Model_call_23 (by decide) ?_
      refine lv_isub hx hb d_Model_call_24 ?_
      refine lv_iload_n hx hb d_Model_call_25 rfl (lv_at hl 1 rfl) ?_
      refine lv_isub hx hb d_Model_call_26 ?_
      refine lv_topi (fun x_4 ex_4 => ?_)
      replace hm := ob1_at ex_4 hm
      refine lv_istore_n (lv' := [(3, .int x_4), (0, .ref h), (1, .int v1), (2, .int v2)]) hx hb d_Model_call_27 rfl hl (by decide) rfl (fun ls hl => ?_)
      refine lv_iconst (v := 0) hx hb d_Model_call_28 (by decide) ?_
      refine lv_istore (lv' := [(4, .int 0), (3, .int x_4), (0, .ref h), (1, .int v1), (2, .int v2)]) hx hb d_Model_call_29 hl (by decide) rfl (fun ls hl => ?_)
      refine lv_bipush (v := 12) hx hb d_Model_call_31 (by decide) ?_
      refine lv_iload_n hx hb d_Model_call_33 rfl (lv_at hl 1 rfl) ?_
      refine lv_imul hx hb d_Model_call_34 ?_
      refine lv_topi (fun x_5 ex_5 => ?_)
      replace hm := ob1_at ex_5 hm
      refine lv_istore (lv' := [(5, .int x_5), (4, .int 0), (3, .int x_4), (0, .ref h), (1, .int v1), (2, .int v2)]) hx hb d_Model_call_35 hl (by decide) rfl (fun ls hl => ?_)
      exact lb_Model_call_37 l dC dI cI cJ cB adK adV adA h v n hx hb hml hown hts hK hE hA hr hlocks n _ _ _ _ _ _ _ _ hm _ _ _ hP hD hS (lv_sub hl [3, 5, 2, 1, 0] rfl)
    · replace hm := if_f c_3 hm
      refine lv_iconst (v := -1) hx hb d_Model_call_17 (by decide) ?_
      obtain ⟨e1i, e1j, e1a, e1b, e3⟩ := re4m hm
      obtain ⟨hP, hD⟩ := y_eq e1i e1j e1a e1b hP hD
      exact W.iret hx hb hr (fun t9 ht hW => ⟨⟨_, (), rfl, e3.symm, by rw [ht]; exact hP, hD⟩, hS.F ht⟩) hS.2.2 d_Model_call_18

def m_Model_isSingle (n : Nat) (v0 : Int32) : Option (Int32) := ob0 (m_Model_isSign n v0) (fun r_2 => if r_2 = ((0 : Int32)) then if v0 = ((40 : Int32)) then some 1 else if v0 = ((41 : Int32)) then some 1 else some 0 else some 1)
set_option maxHeartbeats 4000000 in
set_option maxRecDepth 100000 in
theorem x_Model_isSingle (l : Launch) (sz : Nat) (n : Nat) {v0 : Int32} {r2 : Int32} (hm : m_Model_isSingle n v0 = some r2) : Met l y_Model_isSingle w_Model_isSingle ({ frames := 1, cells := 0, slots := 0, locals := 20 } : Room) (va_Pc [.int v0] (xE0 sz)) (va_Qi (xR r2) xT (xN sz)) 0 0 (xN sz) := by
  refine Met.ofW (cc := b_Model_isSingle) (maxL := 1) (ret := (some .boolean)) (by decide) rfl ?_
  intro p e s m args below meth c s₁ B hml hv
  obtain ⟨rfl, hsz⟩ := hv
  have hx := B.exec
  have hb := B.bytes
  have hr := B.returns
  have hts := atoms_spec (ws := w_Model_isSingle) B.pre
  have htt : ∀ w ∈ tw_T, w.before _ s = true := fun w h => hts w (List.mem_cons_of_mem _ h)
  have hown : s.vm.findClass R_Model = some m.cls := findClass_of_methodNamed B.named
  have hlocks := B.notSynchronized
  subst hsz
  generalize hAe : xN s.heap.size = A
  have hA : ∀ q : Nat, s.heap.size ≤ q → A q := fun q h => by rw [← hAe]; exact Or.inr h
  have hS : va_S A s.heap s.heap [] := va_S.rf
  have hl := lv_entry ([.int v0]) (n := 1) (Nat.le_of_ble_eq_true rfl)
  rw [lg_entry_eq]
  generalize (lg_sl ([.int v0]) ++ List.replicate (1 - (lg_sl ([.int v0])).length) Slot.unset).toArray = ls at hl ⊢
  have hl : lv_has ls 1 [(0, .int v0)] := hl
  rw [m_Model_isSingle] at hm
  refine lv_iload_n hx hb d_Model_isSingle_0 rfl (lv_at hl 0 rfl) ?_
  obtain ⟨r_2, h_1, hm⟩ := ob0_some hm
  have hFc := x_free0 hS hA
  refine va_calli (va_runS (As := [.int v0]) (rest := []) ⟨hx, hb, hml, hown, hts⟩ (x_Model_isSign l s.heap.size n h_1) (va_cwS 1 hts (tw_GS tw_cons cw_Model_isSign lk_Model_412 st_Model_isSign ini_Model) rfl rfl rfl hd_Model_isSign ⟨Nat.le_of_ble_eq_true rfl, Nat.le_of_ble_eq_true rfl⟩) xpS0 rfl rfl hl.1 rfl (lv_room (Nat.le_of_ble_eq_true rfl)) d_Model_isSingle_1 ⟨Nat.le_of_ble_eq_true rfl, Nat.le_of_ble_eq_true rfl⟩) hS (fun q _ h => hFc q h) hFc (fun r9 u9 t9 H locs ht hvm e9 hB hz1 hk1 hS => ?_)
  have e9 : r_2 = r9 := e9
  subst e9
  clear hFc hk1 hz1 hvm hB ht
  refine lv_if_ne (tgt := 19) hx hb d_Model_isSingle_4 (by decide) (fun c_3 => ?_) (fun c_3 => ?_)
  · replace hm := if_f c_3 hm
    refine lv_iconst (v := 1) hx hb d_Model_isSingle_19 (by decide) ?_
    refine lv_goto (tgt := 24) hx hb d_Model_isSingle_20 (by decide) ?_
    have e3 := re1 hm
    exact W.zret hx hb hr (by decide) (fun t9 ht hW => ⟨⟨_, (), rfl, e3.symm, trivial⟩, hS.F ht⟩) hS.2.2 d_Model_isSingle_24
  · replace hm := if_t c_3 hm
    refine lv_iload_n hx hb d_Model_isSingle_7 rfl (lv_at hl 0 rfl) ?_
    refine lv_bipush (v := 40) hx hb d_Model_isSingle_8 (by decide) ?_
    refine lv_icmp_eq (tgt := 19) hx hb d_Model_isSingle_10 (by decide) (fun c_4 => ?_) (fun c_4 => ?_)
    · replace hm := if_t c_4 hm
      refine lv_iconst (v := 1) hx hb d_Model_isSingle_19 (by decide) ?_
      refine lv_goto (tgt := 24) hx hb d_Model_isSingle_20 (by decide) ?_
      have e3 := re1 hm
      exact W.zret hx hb hr (by decide) (fun t9 ht hW => ⟨⟨_, (), rfl, e3.symm, trivial⟩, hS.F ht⟩) hS.2.2 d_Model_isSingle_24
    · replace hm := if_f c_4 hm
      refine lv_iload_n hx hb d_Model_isSingle_13 rfl (lv_at hl 0 rfl) ?_
      refine lv_bipush (v := 41) hx hb d_Model_isSingle_14 (by decide) ?_
      refine lv_icmp_ne (tgt := 23) hx hb d_Model_isSingle_16 (by decide) (fun c_5 => ?_) (fun c_5 => ?_)
      · replace hm := if_f c_5 hm
        refine lv_iconst (v := 0) hx hb d_Model_isSingle_23 (by decide) ?_
        have e3 := re1 hm
        exact W.zret hx hb hr (by decide) (fun t9 ht hW => ⟨⟨_, (), rfl, e3.symm, trivial⟩, hS.F ht⟩) hS.2.2 d_Model_isSingle_24
      · replace hm := if_t c_5 hm
        refine lv_iconst (v := 1) hx hb d_Model_isSingle_19 (by decide) ?_
        refine lv_goto (tgt := 24) hx hb d_Model_isSingle_20 (by decide) ?_
        have e3 := re1 hm
        exact W.zret hx hb hr (by decide) (fun t9 ht hW => ⟨⟨_, (), rfl, e3.symm, trivial⟩, hS.F ht⟩) hS.2.2 d_Model_isSingle_24

def m_Model_isAlone (n : Nat) (i : Nat → Int32) (j : Nat → Int64) (a : Nat → Nat → Int32) (b : Nat → Nat → Int64) (v1 : Int32) (v2 : Int32) : Option (Int32) := if v2 ≤ ((v1 + 1)) then some 1 else ck ((v1 + 1)) 4000 (ob0 (m_Model_isDigit n (a 73 (v1 + 1).toNatClampNeg)) (fun r_4 => if r_4 = ((0 : Int32)) then some 1 else if v1 = ((0 : Int32)) then some 0 else ck ((v1 - 1)) 4000 (ob1 (a 73 (v1 - 1).toNatClampNeg : Int32) (fun x_8 => ob0 (m_Model_isBlank n x_8) (fun r_10 => if r_10 = ((0 : Int32)) then if x_8 = ((91 : Int32)) then some 0 else if x_8 = ((40 : Int32)) then some 0 else ob0 (m_Model_isSign n x_8) (fun r_15 => if r_15 = ((0 : Int32)) then some 1 else some 0) else some 0)))))
set_option maxHeartbeats 4000000 in
set_option maxRecDepth 100000 in
theorem x_Model_isAlone (l : Launch) (dC : Nat → ClassId) (dI : Nat → Nat → Nat) (cI cJ cB : ClassId) (adK adV adA : Nat → Nat) (h : Nat) (v : Nat → Nat) (sz : Nat) (n : Nat) {i : Nat → Int32} {j : Nat → Int64} {a : Nat → Nat → Int32} {b : Nat → Nat → Int64} {v1 : Int32} {v2 : Int32} {r2 : Int32} (hm : m_Model_isAlone n i j a b v1 v2 = some r2) : Met l y_Model_isAlone w_Model_isAlone ({ frames := 1, cells := 0, slots := 0, locals := 20 } : Room) (va_Pc [.ref h, .int v1, .int v2] (yEr dC dI cI cJ cB adK adV adA h v i j a b sz)) (va_Qi (xR r2) xT (xN sz)) 0 0 (xN sz) := by
  refine Met.ofW (cc := b_Model_isAlone) (maxL := 4) (ret := (some .boolean)) (by decide) rfl ?_
  intro p e s m args below meth c s₁ B hml hv
  obtain ⟨rfl, hsz, hP, hK, hE⟩ := hv
  have hx := B.exec
  have hb := B.bytes
  have hr := B.returns
  have hts := atoms_spec (ws := w_Model_isAlone) B.pre
  have htt : ∀ w ∈ tw_T, w.before _ s = true := fun w h => hts w (List.mem_cons_of_mem _ h)
  have hown : s.vm.findClass R_Model = some m.cls := findClass_of_methodNamed B.named
  have hlocks := B.notSynchronized
  subst hsz
  generalize hAe : xN s.heap.size = A at hE ⊢
  have hA : ∀ q : Nat, s.heap.size ≤ q → A q := fun q h => by rw [← hAe]; exact Or.inr h
  have hS : va_S A s.heap s.heap [] := va_S.rf
  have hl := lv_entry ([.ref h, .int v1, .int v2]) (n := 4) (Nat.le_of_ble_eq_true rfl)
  rw [lg_entry_eq]
  generalize (lg_sl ([.ref h, .int v1, .int v2]) ++ List.replicate (4 - (lg_sl ([.ref h, .int v1, .int v2])).length) Slot.unset).toArray = ls at hl ⊢
  have hl : lv_has ls 4 [(0, .ref h), (1, .int v1), (2, .int v2)] := hl
  rw [m_Model_isAlone] at hm
  refine lv_iload_n hx hb d_Model_isAlone_0 rfl (lv_at hl 1 rfl) ?_
  refine lv_iconst (v := 1) hx hb d_Model_isAlone_1 (by decide) ?_
  refine lv_iadd hx hb d_Model_isAlone_2 ?_
  refine lv_iload_n hx hb d_Model_isAlone_3 rfl (lv_at hl 2 rfl) ?_
  refine lv_icmp_ge (tgt := 21) hx hb d_Model_isAlone_4 (by decide) (fun c_1 => ?_) (fun c_1 => ?_)
  · replace hm := if_t c_1 hm
    refine lv_iconst (v := 1) hx hb d_Model_isAlone_21 (by decide) ?_
    have e3 := re1 hm
    exact W.zret hx hb hr (by decide) (fun t9 ht hW => ⟨⟨_, (), rfl, e3.symm, trivial⟩, hS.F ht⟩) hS.2.2 d_Model_isAlone_22
  · replace hm := if_f c_1 hm
    refine lv_aload_n hx hb d_Model_isAlone_7 rfl (lv_at hl 0 rfl) ?_
    refine va_get (D := (dC, dI)) (ci := 12) (v := .ref ((v 73))) (C := R_Model) (T := F_Model) (N := 127) hx hb htt iw_Model hown hK hP 0 yo_12 rfl 73 (Nat.le_of_ble_eq_true rfl) (htt _ lk_Model_261) (fun _ h9 => h9) yg_73 d_Model_isAlone_8 ?_
    refine lv_iload_n hx hb d_Model_isAlone_11 rfl (lv_at hl 1 rfl) ?_
    refine lv_iconst (v := 1) hx hb d_Model_isAlone_12 (by decide) ?_
    refine lv_iadd hx hb d_Model_isAlone_13 ?_
    obtain ⟨h_2, hm⟩ := ck_some hm
    refine va_bald hx hb hK hP 49 2 ya_73 rfl h_2 d_Model_isAlone_14 ?_
    obtain ⟨r_4, h_3, hm⟩ := ob0_some hm
    have hFc := x_free0 hS hA
    refine va_calli (va_runS (As := [.int (a 73 (v1 + 1).toNatClampNeg)]) (rest := []) ⟨hx, hb, hml, hown, hts⟩ (x_Model_isDigit l s.heap.size n h_3) (va_cwS 1 hts (tw_GS tw_cons cw_Model_isDigit lk_Model_419 st_Model_isDigit ini_Model) rfl rfl rfl hd_Model_isDigit ⟨Nat.le_of_ble_eq_true rfl, Nat.le_of_ble_eq_true rfl⟩) xpS0 rfl rfl hl.1 rfl (lv_room (Nat.le_of_ble_eq_true rfl)) d_Model_isAlone_15 ⟨Nat.le_of_ble_eq_true rfl, Nat.le_of_ble_eq_true rfl⟩) hS (fun q _ h => hFc q h) hFc (fun r9 u9 t9 H locs ht hvm e9 hB hz1 hk1 hS => ?_)
    have e9 : r_4 = r9 := e9
    subst e9
    replace hP := x_keep hP hk1
    clear hFc hk1 hz1 hvm hB ht
    refine lv_if_ne (tgt := 23) hx hb d_Model_isAlone_18 (by decide) (fun c_5 => ?_) (fun c_5 => ?_)
    · replace hm := if_f c_5 hm
      refine lv_iload_n hx hb d_Model_isAlone_23 rfl (lv_at hl 1 rfl) ?_
      refine lv_if_ne (tgt := 29) hx hb d_Model_isAlone_24 (by decide) (fun c_6 => ?_) (fun c_6 => ?_)
      · replace hm := if_f c_6 hm
        refine lv_aload_n hx hb d_Model_isAlone_29 rfl (lv_at hl 0 rfl) ?_
        refine va_get (D := (dC, dI)) (ci := 12) (v := .ref ((v 73))) (C := R_Model) (T := F_Model) (N := 127) hx hb htt iw_Model hown hK hP 0 yo_12 rfl 73 (Nat.le_of_ble_eq_true rfl) (htt _ lk_Model_261) (fun _ h9 => h9) yg_73 d_Model_isAlone_30 ?_
        refine lv_iload_n hx hb d_Model_isAlone_33 rfl (lv_at hl 1 rfl) ?_
        refine lv_iconst (v := 1) hx hb d_Model_isAlone_34 (by decide) ?_
        refine lv_isub hx hb d_Model_isAlone_35 ?_
        obtain ⟨h_7, hm⟩ := ck_some hm
        refine va_bald hx hb hK hP 49 2 ya_73 rfl h_7 d_Model_isAlone_36 ?_
        refine lv_topi (fun x_8 ex_8 => ?_)
        replace hm := ob1_at ex_8 hm
        refine lv_istore_n (lv' := [(3, .int x_8), (0, .ref h), (1, .int v1), (2, .int v2)]) hx hb d_Model_isAlone_37 rfl hl (by decide) rfl (fun ls hl => ?_)
        refine lv_iload_n hx hb d_Model_isAlone_38 rfl (lv_at hl 0 rfl) ?_
        obtain ⟨r_10, h_9, hm⟩ := ob0_some hm
        have hFc := x_free0 hS hA
        refine va_calli (va_runS (As := [.int x_8]) (rest := []) ⟨hx, hb, hml, hown, hts⟩ (x_Model_isBlank l H.size n h_9) (va_cwS 1 hts (tw_GS tw_cons cw_Model_isBlank lk_Model_422 st_Model_isBlank ini_Model) rfl rfl rfl hd_Model_isBlank ⟨Nat.le_of_ble_eq_true rfl, Nat.le_of_ble_eq_true rfl⟩) xpS0 rfl rfl hl.1 rfl (lv_room (Nat.le_of_ble_eq_true rfl)) d_Model_isAlone_39 ⟨Nat.le_of_ble_eq_true rfl, Nat.le_of_ble_eq_true rfl⟩) hS (fun q _ h => hFc q h) hFc (fun r9 u9 t9 H locs ht hvm e9 hB hz1 hk1 hS => ?_)
        have e9 : r_10 = r9 := e9
        subst e9
        replace hP := x_keep hP hk1
        clear hFc hk1 hz1 hvm hB ht
        refine lv_if_ne (tgt := 68) hx hb d_Model_isAlone_42 (by decide) (fun c_11 => ?_) (fun c_11 => ?_)
        · replace hm := if_f c_11 hm
          refine lv_iconst (v := 0) hx hb d_Model_isAlone_68 (by decide) ?_
          have e3 := re1 hm
          exact W.zret hx hb hr (by decide) (fun t9 ht hW => ⟨⟨_, (), rfl, e3.symm, trivial⟩, hS.F ht⟩) hS.2.2 d_Model_isAlone_69
        · replace hm := if_t c_11 hm
          refine lv_iload_n hx hb d_Model_isAlone_45 rfl (lv_at hl 0 rfl) ?_
          refine lv_bipush (v := 91) hx hb d_Model_isAlone_46 (by decide) ?_
          refine lv_icmp_eq (tgt := 68) hx hb d_Model_isAlone_48 (by decide) (fun c_12 => ?_) (fun c_12 => ?_)
          · replace hm := if_t c_12 hm
            refine lv_iconst (v := 0) hx hb d_Model_isAlone_68 (by decide) ?_
            have e3 := re1 hm
            exact W.zret hx hb hr (by decide) (fun t9 ht hW => ⟨⟨_, (), rfl, e3.symm, trivial⟩, hS.F ht⟩) hS.2.2 d_Model_isAlone_69
          · replace hm := if_f c_12 hm
            refine lv_iload_n hx hb d_Model_isAlone_51 rfl (lv_at hl 0 rfl) ?_
            refine lv_bipush (v := 40) hx hb d_Model_isAlone_52 (by decide) ?_
            refine lv_icmp_eq (tgt := 68) hx hb d_Model_isAlone_54 (by decide) (fun c_13 => ?_) (fun c_13 => ?_)
            · replace hm := if_t c_13 hm
              refine lv_iconst (v := 0) hx hb d_Model_isAlone_68 (by decide) ?_
              have e3 := re1 hm
              exact W.zret hx hb hr (by decide) (fun t9 ht hW => ⟨⟨_, (), rfl, e3.symm, trivial⟩, hS.F ht⟩) hS.2.2 d_Model_isAlone_69
            · replace hm := if_f c_13 hm
              refine lv_iload_n hx hb d_Model_isAlone_57 rfl (lv_at hl 0 rfl) ?_
              obtain ⟨r_15, h_14, hm⟩ := ob0_some hm
              have hFc := x_free0 hS hA
              refine va_calli (va_runS (As := [.int x_8]) (rest := []) ⟨hx, hb, hml, hown, hts⟩ (x_Model_isSign l H.size n h_14) (va_cwS 1 hts (tw_GS tw_cons cw_Model_isSign lk_Model_412 st_Model_isSign ini_Model) rfl rfl rfl hd_Model_isSign ⟨Nat.le_of_ble_eq_true rfl, Nat.le_of_ble_eq_true rfl⟩) xpS0 rfl rfl hl.1 rfl (lv_room (Nat.le_of_ble_eq_true rfl)) d_Model_isAlone_58 ⟨Nat.le_of_ble_eq_true rfl, Nat.le_of_ble_eq_true rfl⟩) hS (fun q _ h => hFc q h) hFc (fun r9 u9 t9 H locs ht hvm e9 hB hz1 hk1 hS => ?_)
              have e9 : r_15 = r9 := e9
              subst e9
              replace hP := x_keep hP hk1
              clear hFc hk1 hz1 hvm hB ht
              refine lv_if_ne (tgt := 68) hx hb d_Model_isAlone_61 (by decide) (fun c_16 => ?_) (fun c_16 => ?_)
              · replace hm := if_f c_16 hm
                refine lv_iconst (v := 0) hx hb d_Model_isAlone_68 (by decide) ?_
                have e3 := re1 hm
                exact W.zret hx hb hr (by decide) (fun t9 ht hW => ⟨⟨_, (), rfl, e3.symm, trivial⟩, hS.F ht⟩) hS.2.2 d_Model_isAlone_69
              · replace hm := if_t c_16 hm
                refine lv_iconst (v := 1) hx hb d_Model_isAlone_64 (by decide) ?_
                refine lv_goto (tgt := 69) hx hb d_Model_isAlone_65 (by decide) ?_
                have e3 := re1 hm
                exact W.zret hx hb hr (by decide) (fun t9 ht hW => ⟨⟨_, (), rfl, e3.symm, trivial⟩, hS.F ht⟩) hS.2.2 d_Model_isAlone_69
      · replace hm := if_t c_6 hm
        refine lv_iconst (v := 0) hx hb d_Model_isAlone_27 (by decide) ?_
        have e3 := re1 hm
        exact W.zret hx hb hr (by decide) (fun t9 ht hW => ⟨⟨_, (), rfl, e3.symm, trivial⟩, hS.F ht⟩) hS.2.2 d_Model_isAlone_28
    · replace hm := if_t c_5 hm
      refine lv_iconst (v := 1) hx hb d_Model_isAlone_21 (by decide) ?_
      have e3 := re1 hm
      exact W.zret hx hb hr (by decide) (fun t9 ht hW => ⟨⟨_, (), rfl, e3.symm, trivial⟩, hS.F ht⟩) hS.2.2 d_Model_isAlone_22

def m_Model_isWord (n : Nat) (v0 : Int64) : Option (Int32) := ob0 (m_Model_kindOf n v0) (fun r_2 => if r_2 = ((1 : Int32)) then some 1 else some 0)
set_option maxHeartbeats 4000000 in
set_option maxRecDepth 100000 in
theorem x_Model_isWord (l : Launch) (sz : Nat) (n : Nat) {v0 : Int64} {r2 : Int32} (hm : m_Model_isWord n v0 = some r2) : Met l y_Model_isWord w_Model_isWord ({ frames := 1, cells := 0, slots := 0, locals := 21 } : Room) (va_Pc [.long v0] (xE0 sz)) (va_Qi (xR r2) xT (xN sz)) 0 0 (xN sz) := by
  refine Met.ofW (cc := b_Model_isWord) (maxL := 2) (ret := (some .boolean)) (by decide) rfl ?_
  intro p e s m args below meth c s₁ B hml hv
  obtain ⟨rfl, hsz⟩ := hv
  have hx := B.exec
  have hb := B.bytes
  have hr := B.returns
  have hts := atoms_spec (ws := w_Model_isWord) B.pre
  have htt : ∀ w ∈ tw_T, w.before _ s = true := fun w h => hts w (List.mem_cons_of_mem _ h)
  have hown : s.vm.findClass R_Model = some m.cls := findClass_of_methodNamed B.named
  have hlocks := B.notSynchronized
  subst hsz
  generalize hAe : xN s.heap.size = A
  have hA : ∀ q : Nat, s.heap.size ≤ q → A q := fun q h => by rw [← hAe]; exact Or.inr h
  have hS : va_S A s.heap s.heap [] := va_S.rf
  have hl := lv_entry ([.long v0]) (n := 2) (Nat.le_of_ble_eq_true rfl)
  rw [lg_entry_eq]
  generalize (lg_sl ([.long v0]) ++ List.replicate (2 - (lg_sl ([.long v0])).length) Slot.unset).toArray = ls at hl ⊢
  have hl : lv_has ls 2 [(0, .long v0)] := hl
  rw [m_Model_isWord] at hm
  refine lv_lload_n hx hb d_Model_isWord_0 rfl (lv_at hl 0 rfl) ?_
  obtain ⟨r_2, h_1, hm⟩ := ob0_some hm
  have hFc := x_free0 hS hA
  refine va_calli (va_runS (As := [.long v0]) (rest := []) ⟨hx, hb, hml, hown, hts⟩ (x_Model_kindOf l s.heap.size n h_1) (va_cwS 1 hts (tw_GS tw_cons cw_Model_kindOf lk_Model_11 st_Model_kindOf ini_Model) rfl rfl rfl hd_Model_kindOf ⟨Nat.le_of_ble_eq_true rfl, Nat.le_of_ble_eq_true rfl⟩) xpS0 rfl rfl hl.1 rfl (lv_room (Nat.le_of_ble_eq_true rfl)) d_Model_isWord_1 ⟨Nat.le_of_ble_eq_true rfl, Nat.le_of_ble_eq_true rfl⟩) hS (fun q _ h => hFc q h) hFc (fun r9 u9 t9 H locs ht hvm e9 hB hz1 hk1 hS => ?_)
  have e9 : r_2 = r9 := e9
  subst e9
  clear hFc hk1 hz1 hvm hB ht
  refine lv_iconst (v := 1) hx hb d_Model_isWord_4 (by decide) ?_
  refine lv_icmp_ne (tgt := 12) hx hb d_Model_isWord_5 (by decide) (fun c_3 => ?_) (fun c_3 => ?_)
  · replace hm := if_f c_3 hm
    refine lv_iconst (v := 0) hx hb d_Model_isWord_12 (by decide) ?_
    have e3 := re1 hm
    exact W.zret hx hb hr (by decide) (fun t9 ht hW => ⟨⟨_, (), rfl, e3.symm, trivial⟩, hS.F ht⟩) hS.2.2 d_Model_isWord_13
  · replace hm := if_t c_3 hm
    refine lv_iconst (v := 1) hx hb d_Model_isWord_8 (by decide) ?_
    refine lv_goto (tgt := 13) hx hb d_Model_isWord_9 (by decide) ?_
    have e3 := re1 hm
    exact W.zret hx hb hr (by decide) (fun t9 ht hW => ⟨⟨_, (), rfl, e3.symm, trivial⟩, hS.F ht⟩) hS.2.2 d_Model_isWord_13

def m_Model_sameWord (n : Nat) (i : Nat → Int32) (j : Nat → Int64) (a : Nat → Nat → Int32) (b : Nat → Nat → Int64) (v1 : Int32) (v2 : Int32) : Option (Int32) := ck v1 120000 (ck v1 120000 (ck v2 120000 (ck v2 120000 (ob0 (m_Model_sameLetters n i j a b (a 3 v1.toNatClampNeg) (a 4 v1.toNatClampNeg) (a 3 v2.toNatClampNeg) (a 4 v2.toNatClampNeg)) (fun r_6 => cb r_6 (some r_6))))))
set_option maxHeartbeats 4000000 in
set_option maxRecDepth 100000 in
theorem x_Model_sameWord (l : Launch) (dC : Nat → ClassId) (dI : Nat → Nat → Nat) (cI cJ cB : ClassId) (adK adV adA : Nat → Nat) (h : Nat) (v : Nat → Nat) (sz : Nat) (n : Nat) {i : Nat → Int32} {j : Nat → Int64} {a : Nat → Nat → Int32} {b : Nat → Nat → Int64} {v1 : Int32} {v2 : Int32} {r2 : Int32} (hm : m_Model_sameWord n i j a b v1 v2 = some r2) : Met l y_Model_sameWord w_Model_sameWord ({ frames := 1, cells := 0, slots := 0, locals := 25 } : Room) (va_Pc [.ref h, .int v1, .int v2] (yEr dC dI cI cJ cB adK adV adA h v i j a b sz)) (va_Qi (xR r2) xT (xN sz)) 0 0 (xN sz) := by
  refine Met.ofW (cc := b_Model_sameWord) (maxL := 3) (ret := (some .boolean)) (by decide) rfl ?_
  intro p e s m args below meth c s₁ B hml hv
  obtain ⟨rfl, hsz, hP, hK, hE⟩ := hv
  have hx := B.exec
  have hb := B.bytes
  have hr := B.returns
  have hts := atoms_spec (ws := w_Model_sameWord) B.pre
  have htt : ∀ w ∈ tw_T, w.before _ s = true := fun w h => hts w (List.mem_cons_of_mem _ h)
  have hown : s.vm.findClass R_Model = some m.cls := findClass_of_methodNamed B.named
  have hlocks := B.notSynchronized
  subst hsz
  generalize hAe : xN s.heap.size = A at hE ⊢
  have hA : ∀ q : Nat, s.heap.size ≤ q → A q := fun q h => by rw [← hAe]; exact Or.inr h
  have hS : va_S A s.heap s.heap [] := va_S.rf
  have hl := lv_entry ([.ref h, .int v1, .int v2]) (n := 3) (Nat.le_of_ble_eq_true rfl)
  rw [lg_entry_eq]
  generalize (lg_sl ([.ref h, .int v1, .int v2]) ++ List.replicate (3 - (lg_sl ([.ref h, .int v1, .int v2])).length) Slot.unset).toArray = ls at hl ⊢
  have hl : lv_has ls 3 [(0, .ref h), (1, .int v1), (2, .int v2)] := hl
  rw [m_Model_sameWord] at hm
  refine lv_aload_n hx hb d_Model_sameWord_0 rfl (lv_at hl 0 rfl) ?_
  refine lv_aload_n hx hb d_Model_sameWord_1 rfl (lv_at hl 0 rfl) ?_
  refine va_get (D := (dC, dI)) (ci := 12) (v := .ref ((v 3))) (C := R_Model) (T := F_Model) (N := 127) hx hb htt iw_Model hown hK hP 0 yo_12 rfl 3 (Nat.le_of_ble_eq_true rfl) (htt _ lk_Model_15) (fun _ h9 => h9) yg_3 d_Model_sameWord_2 ?_
  refine lv_iload_n hx hb d_Model_sameWord_5 rfl (lv_at hl 1 rfl) ?_
  obtain ⟨h_1, hm⟩ := ck_some hm
  refine va_iald hx hb hK hP 3 0 ya_3 rfl h_1 d_Model_sameWord_6 ?_
  refine lv_aload_n hx hb d_Model_sameWord_7 rfl (lv_at hl 0 rfl) ?_
  refine va_get (D := (dC, dI)) (ci := 12) (v := .ref ((v 4))) (C := R_Model) (T := F_Model) (N := 127) hx hb htt iw_Model hown hK hP 0 yo_12 rfl 4 (Nat.le_of_ble_eq_true rfl) (htt _ lk_Model_22) (fun _ h9 => h9) yg_4 d_Model_sameWord_8 ?_
  refine lv_iload_n hx hb d_Model_sameWord_11 rfl (lv_at hl 1 rfl) ?_
  obtain ⟨h_2, hm⟩ := ck_some hm
  refine va_iald hx hb hK hP 4 0 ya_4 rfl h_2 d_Model_sameWord_12 ?_
  refine lv_aload_n hx hb d_Model_sameWord_13 rfl (lv_at hl 0 rfl) ?_
  refine va_get (D := (dC, dI)) (ci := 12) (v := .ref ((v 3))) (C := R_Model) (T := F_Model) (N := 127) hx hb htt iw_Model hown hK hP 0 yo_12 rfl 3 (Nat.le_of_ble_eq_true rfl) (htt _ lk_Model_15) (fun _ h9 => h9) yg_3 d_Model_sameWord_14 ?_
  refine lv_iload_n hx hb d_Model_sameWord_17 rfl (lv_at hl 2 rfl) ?_
  obtain ⟨h_3, hm⟩ := ck_some hm
  refine va_iald hx hb hK hP 3 0 ya_3 rfl h_3 d_Model_sameWord_18 ?_
  refine lv_aload_n hx hb d_Model_sameWord_19 rfl (lv_at hl 0 rfl) ?_
  refine va_get (D := (dC, dI)) (ci := 12) (v := .ref ((v 4))) (C := R_Model) (T := F_Model) (N := 127) hx hb htt iw_Model hown hK hP 0 yo_12 rfl 4 (Nat.le_of_ble_eq_true rfl) (htt _ lk_Model_22) (fun _ h9 => h9) yg_4 d_Model_sameWord_20 ?_
  refine lv_iload_n hx hb d_Model_sameWord_23 rfl (lv_at hl 2 rfl) ?_
  obtain ⟨h_4, hm⟩ := ck_some hm
  refine va_iald hx hb hK hP 4 0 ya_4 rfl h_4 d_Model_sameWord_24 ?_
  obtain ⟨r_6, h_5, hm⟩ := ob0_some hm
  have hFc := x_free0 hS hA
  refine va_calli (va_runV (As := [.int (a 3 v1.toNatClampNeg), .int (a 4 v1.toNatClampNeg), .int (a 3 v2.toNatClampNeg), .int (a 4 v2.toNatClampNeg)]) (rest := []) ⟨hx, hb, hml, hown, hts⟩ (x_Model_sameLetters l dC dI cI cJ cB adK adV adA h v s.heap.size n h_5) (cwV 4 hts (tw_GV tw_cons cw_Model_sameLetters lk_Model_71 in_Model_sameLetters sel_Model_sameLetters ini_Model) rfl rfl rfl ⟨rfl, hd_Model_sameLetters⟩ ⟨Nat.le_of_ble_eq_true rfl, Nat.le_of_ble_eq_true rfl⟩) (ypVr hK hP hS hE hFc yo_12 rfl) rfl rfl hl.1 rfl (lv_room (Nat.le_of_ble_eq_true rfl)) d_Model_sameWord_25 ⟨Nat.le_of_ble_eq_true rfl, Nat.le_of_ble_eq_true rfl⟩) hS (fun q _ h => hFc q h) hFc (fun r9 u9 t9 H locs ht hvm e9 hB hz1 hk1 hS => ?_)
  have e9 : r_6 = r9 := e9
  subst e9
  replace hP := x_keep hP hk1
  clear hFc hk1 hz1 hvm hB ht
  obtain ⟨h_7, h_7f, hm⟩ := cb_some hm
  have e3 := re1 hm
  exact W.zret hx hb hr h_7 (fun t9 ht hW => ⟨⟨_, (), rfl, e3.symm, trivial⟩, hS.F ht⟩) hS.2.2 d_Model_sameWord_28

def m_Model_isNumber (n : Nat) (v0 : Int64) : Option (Int32) := ob0 (m_Model_kindOf n v0) (fun r_2 => if r_2 = ((0 : Int32)) then some 1 else some 0)
set_option maxHeartbeats 4000000 in
set_option maxRecDepth 100000 in
theorem x_Model_isNumber (l : Launch) (sz : Nat) (n : Nat) {v0 : Int64} {r2 : Int32} (hm : m_Model_isNumber n v0 = some r2) : Met l y_Model_isNumber w_Model_isNumber ({ frames := 1, cells := 0, slots := 0, locals := 21 } : Room) (va_Pc [.long v0] (xE0 sz)) (va_Qi (xR r2) xT (xN sz)) 0 0 (xN sz) := by
  refine Met.ofW (cc := b_Model_isNumber) (maxL := 2) (ret := (some .boolean)) (by decide) rfl ?_
  intro p e s m args below meth c s₁ B hml hv
  obtain ⟨rfl, hsz⟩ := hv
  have hx := B.exec
  have hb := B.bytes
  have hr := B.returns
  have hts := atoms_spec (ws := w_Model_isNumber) B.pre
  have htt : ∀ w ∈ tw_T, w.before _ s = true := fun w h => hts w (List.mem_cons_of_mem _ h)
  have hown : s.vm.findClass R_Model = some m.cls := findClass_of_methodNamed B.named
  have hlocks := B.notSynchronized
  subst hsz
  generalize hAe : xN s.heap.size = A
  have hA : ∀ q : Nat, s.heap.size ≤ q → A q := fun q h => by rw [← hAe]; exact Or.inr h
  have hS : va_S A s.heap s.heap [] := va_S.rf
  have hl := lv_entry ([.long v0]) (n := 2) (Nat.le_of_ble_eq_true rfl)
  rw [lg_entry_eq]
  generalize (lg_sl ([.long v0]) ++ List.replicate (2 - (lg_sl ([.long v0])).length) Slot.unset).toArray = ls at hl ⊢
  have hl : lv_has ls 2 [(0, .long v0)] := hl
  rw [m_Model_isNumber] at hm
  refine lv_lload_n hx hb d_Model_isNumber_0 rfl (lv_at hl 0 rfl) ?_
  obtain ⟨r_2, h_1, hm⟩ := ob0_some hm
  have hFc := x_free0 hS hA
  refine va_calli (va_runS (As := [.long v0]) (rest := []) ⟨hx, hb, hml, hown, hts⟩ (x_Model_kindOf l s.heap.size n h_1) (va_cwS 1 hts (tw_GS tw_cons cw_Model_kindOf lk_Model_11 st_Model_kindOf ini_Model) rfl rfl rfl hd_Model_kindOf ⟨Nat.le_of_ble_eq_true rfl, Nat.le_of_ble_eq_true rfl⟩) xpS0 rfl rfl hl.1 rfl (lv_room (Nat.le_of_ble_eq_true rfl)) d_Model_isNumber_1 ⟨Nat.le_of_ble_eq_true rfl, Nat.le_of_ble_eq_true rfl⟩) hS (fun q _ h => hFc q h) hFc (fun r9 u9 t9 H locs ht hvm e9 hB hz1 hk1 hS => ?_)
  have e9 : r_2 = r9 := e9
  subst e9
  clear hFc hk1 hz1 hvm hB ht
  refine lv_if_ne (tgt := 11) hx hb d_Model_isNumber_4 (by decide) (fun c_3 => ?_) (fun c_3 => ?_)
  · replace hm := if_f c_3 hm
    refine lv_iconst (v := 0) hx hb d_Model_isNumber_11 (by decide) ?_
    have e3 := re1 hm
    exact W.zret hx hb hr (by decide) (fun t9 ht hW => ⟨⟨_, (), rfl, e3.symm, trivial⟩, hS.F ht⟩) hS.2.2 d_Model_isNumber_12
  · replace hm := if_t c_3 hm
    refine lv_iconst (v := 1) hx hb d_Model_isNumber_7 (by decide) ?_
    refine lv_goto (tgt := 12) hx hb d_Model_isNumber_8 (by decide) ?_
    have e3 := re1 hm
    exact W.zret hx hb hr (by decide) (fun t9 ht hW => ⟨⟨_, (), rfl, e3.symm, trivial⟩, hS.F ht⟩) hS.2.2 d_Model_isNumber_12

def m_Model_keep_b93 (n : Nat) : Nat → (Nat → Int32) → (Nat → Int64) → (Nat → Nat → Int32) → (Nat → Nat → Int64) → Int32 → Option ((Nat → Int32) × (Nat → Int64) × (Nat → Nat → Int32) × (Nat → Nat → Int64) × Int32)
  | 0, _, _, _, _, _ => none
  | f + 1, i, j, a, b, v1 => if ((7 : Int32)) ≤ v1 then cy ((0 : Int32)) ((0 : Int32)) ((4096 : Int32)) 4096 4096 (ob1 (updA a 54 (va_cpy (a 44) (a 54) (0 : Int32).toNatClampNeg (0 : Int32).toNatClampNeg (4096 : Int32).toNatClampNeg) : Nat → Nat → Int32) (fun a_3 => cy ((0 : Int32)) ((0 : Int32)) ((2000 : Int32)) 2000 2000 (cyb (a_3 45) ((0 : Int32)) ((2000 : Int32)) (ob1 (updA a_3 57 (va_cpy (a_3 45) (a_3 57) (0 : Int32).toNatClampNeg (0 : Int32).toNatClampNeg (2000 : Int32).toNatClampNeg) : Nat → Nat → Int32) (fun a_5 => ob1 (i 33 : Int32) (fun x_6 => ob1 (upd i 59 x_6 : Nat → Int32) (fun i_7 => ob1 (i_7 36 : Int32) (fun x_8 => ob1 (upd i_7 60 x_8 : Nat → Int32) (fun i_9 => ob1 (j 48 : Int64) (fun x_10 => ob1 (vp_updL j 58 x_10 : Nat → Int64) (fun j_11 => ob1 (i_9 46 : Int32) (fun x_12 => ob1 (upd i_9 61 x_12 : Nat → Int32) (fun i_13 => ob1 (i_13 47 : Int32) (fun x_14 => ob1 (upd i_13 62 x_14 : Nat → Int32) (fun i_15 => ob1 (i_15 18 : Int32) (fun x_16 => ob1 (upd i_15 63 x_16 : Nat → Int32) (fun i_17 => ob1 (i_17 19 : Int32) (fun x_18 => ob1 (upd i_17 64 x_18 : Nat → Int32) (fun i_19 => ob1 (i_19 20 : Int32) (fun x_20 => ob1 (upd i_19 65 x_20 : Nat → Int32) (fun i_21 => ob1 (i_21 21 : Int32) (fun x_22 => ob1 (upd i_21 66 x_22 : Nat → Int32) (fun i_23 => some (i_23, j_11, a_5, b, (0 : Int32))))))))))))))))))))))))) else ob0 (m_Model_turtleRow n i j a b v1) (fun r_25 => cd r_25 (cy ((0 : Int32)) (8 * v1) ((8 : Int32)) 8 56 (ob1 (updA a 53 (va_cpy (a r_25) (a 53) (0 : Int32).toNatClampNeg (8 * v1).toNatClampNeg (8 : Int32).toNatClampNeg) : Nat → Nat → Int32) (fun a_27 => ob1 (v1 + 1 : Int32) (fun x_28 => m_Model_keep_b93 n f i j a_27 b x_28)))))
set_option maxHeartbeats 4000000 in
set_option maxRecDepth 100000 in
theorem lb_Model_keep_93 (l : Launch) (dC : Nat → ClassId) (dI : Nat → Nat → Nat) (cI cJ cB : ClassId) (adK adV adA : Nat → Nat) (h : Nat) (v : Nat → Nat) (n : Nat) {p : Program} {e : Env} {s : State} {m : MethodId} {args : Array Value} {below : List Frame} {meth : Method} {c : Code} {A : Nat → Prop} (hx : p.tables.exec = Jvm.exec) (hb : c.code = b_Model_keep) (hml : c.maxLocals = 2) (hown : s.vm.findClass R_Model = some m.cls) (hts : ∀ w ∈ w_Model_keep, w.before args s = true) (hK : va_K (dC, dI) classes [(cI, .int), (cJ, .long), (cB, .byte)] s) (hE : tw_E adK adV adA A s s.heap) (hA : ∀ q : Nat, s.heap.size ≤ q → A q) (hr : meth.sig.returnType = none) (hlocks : meth.locks = false) {i2 : Nat → Int32} {j2 : Nat → Int64} {a2 : Nat → Nat → Int32} {b2 : Nat → Nat → Int64} {r2 : Int32} : ∀ (f : Nat) (i : Nat → Int32) (j : Nat → Int64) (a : Nat → Nat → Int32) (b : Nat → Nat → Int64) (v1 : Int32), m_Model_keep_b93 n f i j a b v1 = some (i2, j2, a2, b2, r2) → ∀ (H : Heap) (locs : List Loc) (ls : Array Slot), va_P (dC, dI) classes (MW cI cJ cB h v i j a b) H → va_D A (MW cI cJ cB h v i j a b) → va_S A s.heap H locs → lv_has ls 2 [(0, .ref h), (1, .int v1)] → W p l e ({ frames := 1, cells := 0, slots := 0, locals := 40 } : Room) s m args below meth c H locs 0 0 (MQ below (va_Qv xV (yB dC dI cI cJ cB h v i2 j2 a2 b2 A) A) args s 0 0 A) (F0 m 93 ls []) := by
  have htt : ∀ w ∈ tw_T, w.before _ s = true := fun w h => hts w (List.mem_cons_of_mem _ h)
  intro f
  induction f with
  | zero =>
    intro i j a b v1 hm
    rw [m_Model_keep_b93] at hm
    cases hm
  | succ f ih =>
    intro i j a b v1 hm H locs ls hP hD hS hl
    rw [m_Model_keep_b93] at hm
    refine lv_iload_n hx hb d_Model_keep_93 rfl (lv_at hl 1 rfl) ?_
    refine lv_bipush (v := 7) hx hb d_Model_keep_94 (by decide) ?_
    refine lv_icmp_ge (tgt := 124) hx hb d_Model_keep_96 (by decide) (fun c_1 => ?_) (fun c_1 => ?_)
    · replace hm := if_t c_1 hm
      refine lv_aload_n hx hb d_Model_keep_124 rfl (lv_at hl 0 rfl) ?_
      refine va_get (D := (dC, dI)) (ci := 12) (v := .ref ((v 44))) (C := R_Model) (T := F_Model) (N := 127) hx hb htt iw_Model hown hK hP 0 yo_12 rfl 44 (Nat.le_of_ble_eq_true rfl) (htt _ lk_Model_222) (fun _ h9 => h9) yg_44 d_Model_keep_125 ?_
      refine lv_iconst (v := 0) hx hb d_Model_keep_128 (by decide) ?_
      refine lv_aload_n hx hb d_Model_keep_129 rfl (lv_at hl 0 rfl) ?_
      refine va_get (D := (dC, dI)) (ci := 12) (v := .ref ((v 54))) (C := R_Model) (T := F_Model) (N := 127) hx hb htt iw_Model hown hK hP 0 yo_12 rfl 54 (Nat.le_of_ble_eq_true rfl) (htt _ lk_Model_243) (fun _ h9 => h9) yg_54 d_Model_keep_130 ?_
      refine lv_iconst (v := 0) hx hb d_Model_keep_133 (by decide) ?_
      refine lv_sipush (v := 4096) hx hb d_Model_keep_134 (by decide) ?_
      obtain ⟨h_2a, h_2b, h_2c, h_2d, h_2e, hm⟩ := cy_some hm
      refine va_copyi hx hb (by rw [hml]; exact hl.1.symm) hown (htt _ lk_Model_334) (htt _ na_arraycopy) (htt _ st_arraycopy) (htt _ ini_System) hK hP hD hS 36 43 0 0 (ty := .int) ya_44 ya_54 rfl rfl rfl h_2a h_2b h_2c h_2d h_2e (fun _ _ => rfl) (Nat.le_of_ble_eq_true rfl) (Nat.le_of_ble_eq_true rfl) d_Model_keep_137 (fun H locs hP hD hS => ?_)
      obtain ⟨a_3, ea_3⟩ : ∃ y9 : Nat → Nat → Int32, y9 = updA a 54 (va_cpy (a 44) (a 54) (0 : Int32).toNatClampNeg (0 : Int32).toNatClampNeg (4096 : Int32).toNatClampNeg) := ⟨_, rfl⟩
      replace hm := ob1_at ea_3 hm
      obtain ⟨hP, hD⟩ := yv_54 ea_3 hP hD
      refine lv_aload_n hx hb d_Model_keep_140 rfl (lv_at hl 0 rfl) ?_
      refine va_get (D := (dC, dI)) (ci := 12) (v := .ref ((v 45))) (C := R_Model) (T := F_Model) (N := 127) hx hb htt iw_Model hown hK hP 0 yo_12 rfl 45 (Nat.le_of_ble_eq_true rfl) (htt _ lk_Model_225) (fun _ h9 => h9) yg_45 d_Model_keep_141 ?_
      refine lv_iconst (v := 0) hx hb d_Model_keep_144 (by decide) ?_
      refine lv_aload_n hx hb d_Model_keep_145 rfl (lv_at hl 0 rfl) ?_
      refine va_get (D := (dC, dI)) (ci := 12) (v := .ref ((v 57))) (C := R_Model) (T := F_Model) (N := 127) hx hb htt iw_Model hown hK hP 0 yo_12 rfl 57 (Nat.le_of_ble_eq_true rfl) (htt _ lk_Model_252) (fun _ h9 => h9) yg_57 d_Model_keep_146 ?_
      refine lv_iconst (v := 0) hx hb d_Model_keep_149 (by decide) ?_
      refine lv_sipush (v := 2000) hx hb d_Model_keep_150 (by decide) ?_
      obtain ⟨h_4a, h_4b, h_4c, h_4d, h_4e, hm⟩ := cy_some hm
      obtain ⟨h_4f, hm⟩ := cyb_some hm
      refine va_copyi hx hb (by rw [hml]; exact hl.1.symm) hown (htt _ lk_Model_334) (htt _ na_arraycopy) (htt _ st_arraycopy) (htt _ ini_System) hK hP hD hS 37 46 2 2 (ty := .byte) ya_45 ya_57 rfl rfl rfl h_4a h_4b h_4c h_4d h_4e h_4f (Nat.le_of_ble_eq_true rfl) (Nat.le_of_ble_eq_true rfl) d_Model_keep_153 (fun H locs hP hD hS => ?_)
      obtain ⟨a_5, ea_5⟩ : ∃ y9 : Nat → Nat → Int32, y9 = updA a_3 57 (va_cpy (a_3 45) (a_3 57) (0 : Int32).toNatClampNeg (0 : Int32).toNatClampNeg (2000 : Int32).toNatClampNeg) := ⟨_, rfl⟩
      replace hm := ob1_at ea_5 hm
      obtain ⟨hP, hD⟩ := yv_57 ea_5 hP hD
      refine lv_aload_n hx hb d_Model_keep_156 rfl (lv_at hl 0 rfl) ?_
      refine lv_aload_n hx hb d_Model_keep_157 rfl (lv_at hl 0 rfl) ?_
      refine va_get (D := (dC, dI)) (ci := 12) (v := .int (i 33)) (C := R_Model) (T := F_Model) (N := 127) hx hb htt iw_Model hown hK hP 0 yo_12 rfl 33 (Nat.le_of_ble_eq_true rfl) (htt _ lk_Model_344) (fun _ h9 => h9) yg_33 d_Model_keep_158 ?_
      refine lv_topi (fun x_6 ex_6 => ?_)
      replace hm := ob1_at ex_6 hm
      refine va_put (D := (dC, dI)) (ci := 12) (v := .int x_6) (ty := .int) (C := R_Model) (T := F_Model) (N := 127) hx hb htt iw_Model t_Model t_Model_ok n_Model hown hK hP hD hS 0 yo_12 rfl 59 (Nat.le_of_ble_eq_true rfl) (htt _ lk_Model_347) (fun _ h9 => h9) rfl (by decide +kernel) rfl rfl yl_59 d_Model_keep_161 (fun H locs hP hD hS => ?_)
      obtain ⟨i_7, ei_7⟩ : ∃ y9 : Nat → Int32, y9 = upd i 59 x_6 := ⟨_, rfl⟩
      replace hm := ob1_at ei_7 hm
      obtain ⟨hP, hD⟩ := yw_59 ei_7 hP hD
      refine lv_aload_n hx hb d_Model_keep_164 rfl (lv_at hl 0 rfl) ?_
      refine lv_aload_n hx hb d_Model_keep_165 rfl (lv_at hl 0 rfl) ?_
      refine va_get (D := (dC, dI)) (ci := 12) (v := .int (i_7 36)) (C := R_Model) (T := F_Model) (N := 127) hx hb htt iw_Model hown hK hP 0 yo_12 rfl 36 (Nat.le_of_ble_eq_true rfl) (htt _ lk_Model_350) (fun _ h9 => h9) yg_36 d_Model_keep_166 ?_
      refine lv_topi (fun x_8 ex_8 => ?_)
      replace hm := ob1_at ex_8 hm
      refine va_put (D := (dC, dI)) (ci := 12) (v := .int x_8) (ty := .int) (C := R_Model) (T := F_Model) (N := 127) hx hb htt iw_Model t_Model t_Model_ok n_Model hown hK hP hD hS 0 yo_12 rfl 60 (Nat.le_of_ble_eq_true rfl) (htt _ lk_Model_353) (fun _ h9 => h9) rfl (by decide +kernel) rfl rfl yl_60 d_Model_keep_169 (fun H locs hP hD hS => ?_)
      obtain ⟨i_9, ei_9⟩ : ∃ y9 : Nat → Int32, y9 = upd i_7 60 x_8 := ⟨_, rfl⟩
      replace hm := ob1_at ei_9 hm
      obtain ⟨hP, hD⟩ := yw_60 ei_9 hP hD
      refine lv_aload_n hx hb d_Model_keep_172 rfl (lv_at hl 0 rfl) ?_
      refine lv_aload_n hx hb d_Model_keep_173 rfl (lv_at hl 0 rfl) ?_
      refine va_get (D := (dC, dI)) (ci := 12) (v := .long (j 48)) (C := R_Model) (T := F_Model) (N := 127) hx hb htt iw_Model hown hK hP 0 yo_12 rfl 48 (Nat.le_of_ble_eq_true rfl) (htt _ lk_Model_356) (fun _ h9 => h9) yg_48 d_Model_keep_174 ?_
      refine lv_topl (fun x_10 ex_10 => ?_)
      replace hm := ob1_at ex_10 hm
      refine va_put (D := (dC, dI)) (ci := 12) (v := .long x_10) (ty := .long) (C := R_Model) (T := F_Model) (N := 127) hx hb htt iw_Model t_Model t_Model_ok n_Model hown hK hP hD hS 0 yo_12 rfl 58 (Nat.le_of_ble_eq_true rfl) (htt _ lk_Model_360) (fun _ h9 => h9) rfl (by decide +kernel) rfl rfl yl_58 d_Model_keep_177 (fun H locs hP hD hS => ?_)
      obtain ⟨j_11, ej_11⟩ : ∃ y9 : Nat → Int64, y9 = vp_updL j 58 x_10 := ⟨_, rfl⟩
      replace hm := ob1_at ej_11 hm
      obtain ⟨hP, hD⟩ := yw_58 ej_11 hP hD
      refine lv_aload_n hx hb d_Model_keep_180 rfl (lv_at hl 0 rfl) ?_
      refine lv_aload_n hx hb d_Model_keep_181 rfl (lv_at hl 0 rfl) ?_
      refine va_get (D := (dC, dI)) (ci := 12) (v := .int (i_9 46)) (C := R_Model) (T := F_Model) (N := 127) hx hb htt iw_Model hown hK hP 0 yo_12 rfl 46 (Nat.le_of_ble_eq_true rfl) (htt _ lk_Model_331) (fun _ h9 => h9) yg_46 d_Model_keep_182 ?_
      refine lv_topi (fun x_12 ex_12 => ?_)
      replace hm := ob1_at ex_12 hm
      refine va_put (D := (dC, dI)) (ci := 12) (v := .int x_12) (ty := .int) (C := R_Model) (T := F_Model) (N := 127) hx hb htt iw_Model t_Model t_Model_ok n_Model hown hK hP hD hS 0 yo_12 rfl 61 (Nat.le_of_ble_eq_true rfl) (htt _ lk_Model_363) (fun _ h9 => h9) rfl (by decide +kernel) rfl rfl yl_61 d_Model_keep_185 (fun H locs hP hD hS => ?_)
      obtain ⟨i_13, ei_13⟩ : ∃ y9 : Nat → Int32, y9 = upd i_9 61 x_12 := ⟨_, rfl⟩
      replace hm := ob1_at ei_13 hm
      obtain ⟨hP, hD⟩ := yw_61 ei_13 hP hD
      refine lv_aload_n hx hb d_Model_keep_188 rfl (lv_at hl 0 rfl) ?_
      refine lv_aload_n hx hb d_Model_keep_189 rfl (lv_at hl 0 rfl) ?_
      refine va_get (D := (dC, dI)) (ci := 12) (v := .int (i_13 47)) (C := R_Model) (T := F_Model) (N := 127) hx hb htt iw_Model hown hK hP 0 yo_12 rfl 47 (Nat.le_of_ble_eq_true rfl) (htt _ lk_Model_366) (fun _ h9 => h9) yg_47 d_Model_keep_190 ?_
      refine lv_topi (fun x_14 ex_14 => ?_)
      replace hm := ob1_at ex_14 hm
      refine va_put (D := (dC, dI)) (ci := 12) (v := .int x_14) (ty := .int) (C := R_Model) (T := F_Model) (N := 127) hx hb htt iw_Model t_Model t_Model_ok n_Model hown hK hP hD hS 0 yo_12 rfl 62 (Nat.le_of_ble_eq_true rfl) (htt _ lk_Model_369) (fun _ h9 => h9) rfl (by decide +kernel) rfl rfl yl_62 d_Model_keep_193 (fun H locs hP hD hS => ?_)
      obtain ⟨i_15, ei_15⟩ : ∃ y9 : Nat → Int32, y9 = upd i_13 62 x_14 := ⟨_, rfl⟩
      replace hm := ob1_at ei_15 hm
      obtain ⟨hP, hD⟩ := yw_62 ei_15 hP hD
      refine lv_aload_n hx hb d_Model_keep_196 rfl (lv_at hl 0 rfl) ?_
      refine lv_aload_n hx hb d_Model_keep_197 rfl (lv_at hl 0 rfl) ?_
      refine va_get (D := (dC, dI)) (ci := 12) (v := .int (i_15 18)) (C := R_Model) (T := F_Model) (N := 127) hx hb htt iw_Model hown hK hP 0 yo_12 rfl 18 (Nat.le_of_ble_eq_true rfl) (htt _ lk_Model_372) (fun _ h9 => h9) yg_18 d_Model_keep_198 ?_
      refine lv_topi (fun x_16 ex_16 => ?_)
      replace hm := ob1_at ex_16 hm
      refine va_put (D := (dC, dI)) (ci := 12) (v := .int x_16) (ty := .int) (C := R_Model) (T := F_Model) (N := 127) hx hb htt iw_Model t_Model t_Model_ok n_Model hown hK hP hD hS 0 yo_12 rfl 63 (Nat.le_of_ble_eq_true rfl) (htt _ lk_Model_375) (fun _ h9 => h9) rfl (by decide +kernel) rfl rfl yl_63 d_Model_keep_201 (fun H locs hP hD hS => ?_)
      obtain ⟨i_17, ei_17⟩ : ∃ y9 : Nat → Int32, y9 = upd i_15 63 x_16 := ⟨_, rfl⟩
      replace hm := ob1_at ei_17 hm
      obtain ⟨hP, hD⟩ := yw_63 ei_17 hP hD
      refine lv_aload_n hx hb d_Model_keep_204 rfl (lv_at hl 0 rfl) ?_
      refine lv_aload_n hx hb d_Model_keep_205 rfl (lv_at hl 0 rfl) ?_
      refine va_get (D := (dC, dI)) (ci := 12) (v := .int (i_17 19)) (C := R_Model) (T := F_Model) (N := 127) hx hb htt iw_Model hown hK hP 0 yo_12 rfl 19 (Nat.le_of_ble_eq_true rfl) (htt _ lk_Model_19) (fun _ h9 => h9) yg_19 d_Model_keep_206 ?_
      refine lv_topi (fun x_18 ex_18 => ?_)
      replace hm := ob1_at ex_18 hm
      refine va_put (D := (dC, dI)) (ci := 12) (v := .int x_18) (ty := .int) (C := R_Model) (T := F_Model) (N := 127) hx hb htt iw_Model t_Model t_Model_ok n_Model hown hK hP hD hS 0 yo_12 rfl 64 (Nat.le_of_ble_eq_true rfl) (htt _ lk_Model_378) (fun _ h9 => h9) rfl (by decide +kernel) rfl rfl yl_64 d_Model_keep_209 (fun H locs hP hD hS => ?_)
      obtain ⟨i_19, ei_19⟩ : ∃ y9 : Nat → Int32, y9 = upd i_17 64 x_18 := ⟨_, rfl⟩
      replace hm := ob1_at ei_19 hm
      obtain ⟨hP, hD⟩ := yw_64 ei_19 hP hD
      refine lv_aload_n hx hb d_Model_keep_212 rfl (lv_at hl 0 rfl) ?_
      refine lv_aload_n hx hb d_Model_keep_213 rfl (lv_at hl 0 rfl) ?_
      refine va_get (D := (dC, dI)) (ci := 12) (v := .int (i_19 20)) (C := R_Model) (T := F_Model) (N := 127) hx hb htt iw_Model hown hK hP 0 yo_12 rfl 20 (Nat.le_of_ble_eq_true rfl) (htt _ lk_Model_32) (fun _ h9 => h9) yg_20 d_Model_keep_214 ?_
      refine lv_topi (fun x_20 ex_20 => ?_)
      replace hm := ob1_at ex_20 hm
      refine va_put (D := (dC, dI)) (ci := 12) (v := .int x_20) (ty := .int) (C := R_Model) (T := F_Model) (N := 127) hx hb htt iw_Model t_Model t_Model_ok n_Model hown hK hP hD hS 0 yo_12 rfl 65 (Nat.le_of_ble_eq_true rfl) (htt _ lk_Model_381) (fun _ h9 => h9) rfl (by decide +kernel) rfl rfl yl_65 d_Model_keep_217 (fun H locs hP hD hS => ?_)
      obtain ⟨i_21, ei_21⟩ : ∃ y9 : Nat → Int32, y9 = upd i_19 65 x_20 := ⟨_, rfl⟩
      replace hm := ob1_at ei_21 hm
      obtain ⟨hP, hD⟩ := yw_65 ei_21 hP hD
      refine lv_aload_n hx hb d_Model_keep_220 rfl (lv_at hl 0 rfl) ?_
      refine lv_aload_n hx hb d_Model_keep_221 rfl (lv_at hl 0 rfl) ?_
      refine va_get (D := (dC, dI)) (ci := 12) (v := .int (i_21 21)) (C := R_Model) (T := F_Model) (N := 127) hx hb htt iw_Model hown hK hP 0 yo_12 rfl 21 (Nat.le_of_ble_eq_true rfl) (htt _ lk_Model_44) (fun _ h9 => h9) yg_21 d_Model_keep_222 ?_
      refine lv_topi (fun x_22 ex_22 => ?_)
      replace hm := ob1_at ex_22 hm
      refine va_put (D := (dC, dI)) (ci := 12) (v := .int x_22) (ty := .int) (C := R_Model) (T := F_Model) (N := 127) hx hb htt iw_Model t_Model t_Model_ok n_Model hown hK hP hD hS 0 yo_12 rfl 66 (Nat.le_of_ble_eq_true rfl) (htt _ lk_Model_384) (fun _ h9 => h9) rfl (by decide +kernel) rfl rfl yl_66 d_Model_keep_225 (fun H locs hP hD hS => ?_)
      obtain ⟨i_23, ei_23⟩ : ∃ y9 : Nat → Int32, y9 = upd i_21 66 x_22 := ⟨_, rfl⟩
      replace hm := ob1_at ei_23 hm
      obtain ⟨hP, hD⟩ := yw_66 ei_23 hP hD
      obtain ⟨e1i, e1j, e1a, e1b, e3⟩ := re4m hm
      obtain ⟨hP, hD⟩ := y_eq e1i e1j e1a e1b hP hD
      exact W.vret hx hb hr (fun t9 ht hW => ⟨⟨(), rfl, trivial, by rw [ht]; exact hP, hD⟩, hS.F ht⟩) hS.2.2 d_Model_keep_228
    · replace hm := if_f c_1 hm
      refine lv_aload_n hx hb d_Model_keep_99 rfl (lv_at hl 0 rfl) ?_
      refine lv_iload_n hx hb d_Model_keep_100 rfl (lv_at hl 1 rfl) ?_
      obtain ⟨r_25, h_24, hm⟩ := ob0_some hm
      have hFc := x_free0 hS hA
      refine va_callr (va_runV (As := [.int v1]) (rest := []) ⟨hx, hb, hml, hown, hts⟩ (x_Model_turtleRow l dC dI cI cJ cB adK adV adA h v H.size n h_24) (cwV 1 hts (tw_GV tw_cons cw_Model_turtleRow lk_Model_340 in_Model_turtleRow sel_Model_turtleRow ini_Model) rfl rfl rfl ⟨rfl, hd_Model_turtleRow⟩ ⟨Nat.le_of_ble_eq_true rfl, Nat.le_of_ble_eq_true rfl⟩) (ypVr hK hP hS hE hFc yo_12 rfl) rfl rfl hl.1 rfl (lv_room (Nat.le_of_ble_eq_true rfl)) d_Model_keep_101 ⟨Nat.le_of_ble_eq_true rfl, Nat.le_of_ble_eq_true rfl⟩) hS (fun q _ h => hFc q h) hFc (fun u9 q9 t9 H locs ht hvm e9 hB hz1 hk1 hS => ?_)
      have hB : q9 = v r_25 := hB
      subst hB
      obtain ⟨hr_25, hm⟩ := cd_some hm
      replace hP := x_keep hP hk1
      clear hFc hk1 hz1 hvm ht
      refine lv_iconst (v := 0) hx hb d_Model_keep_104 (by decide) ?_
      refine lv_aload_n hx hb d_Model_keep_105 rfl (lv_at hl 0 rfl) ?_
      refine va_get (D := (dC, dI)) (ci := 12) (v := .ref ((v 53))) (C := R_Model) (T := F_Model) (N := 127) hx hb htt iw_Model hown hK hP 0 yo_12 rfl 53 (Nat.le_of_ble_eq_true rfl) (htt _ lk_Model_240) (fun _ h9 => h9) yg_53 d_Model_keep_106 ?_
      refine lv_bipush (v := 8) hx hb d_Model_keep_109 (by decide) ?_
      refine lv_iload_n hx hb d_Model_keep_111 rfl (lv_at hl 1 rfl) ?_
      refine lv_imul hx hb d_Model_keep_112 ?_
      refine lv_bipush (v := 8) hx hb d_Model_keep_113 (by decide) ?_
      obtain ⟨h_26a, h_26b, h_26c, h_26d, h_26e, hm⟩ := cy_some hm
      refine va_copyi hx hb (by rw [hml]; exact hl.1.symm) hown (htt _ lk_Model_334) (htt _ na_arraycopy) (htt _ st_arraycopy) (htt _ ini_System) hK hP hD hS (29 + (r_25 - 37)) 42 0 0 (ty := .int) (ya_t r_25 hr_25) ya_53 rfl rfl rfl h_26a h_26b h_26c h_26d h_26e (fun _ _ => rfl) (Nat.le_of_ble_eq_true rfl) (Nat.le_of_ble_eq_true rfl) d_Model_keep_115 (fun H locs hP hD hS => ?_)
      obtain ⟨a_27, ea_27⟩ : ∃ y9 : Nat → Nat → Int32, y9 = updA a 53 (va_cpy (a r_25) (a 53) (0 : Int32).toNatClampNeg (8 * v1).toNatClampNeg (8 : Int32).toNatClampNeg) := ⟨_, rfl⟩
      replace hm := ob1_at ea_27 hm
      obtain ⟨hP, hD⟩ := yv_53 ea_27 hP hD
      obtain ⟨x_28, ex_28⟩ : ∃ y9 : Int32, y9 = v1 + 1 := ⟨_, rfl⟩
      replace hm := ob1_at ex_28 hm
      refine lv_iinc (v := x_28) (lv' := [(1, .int x_28), (0, .ref h)]) hx hb d_Model_keep_118 hl (k := 1) rfl (by rw [ex_28]; rfl) (by decide) rfl (fun ls hl => ?_)
      refine lv_goto (tgt := 93) hx hb d_Model_keep_121 (by decide) ?_
      exact ih _ _ _ _ _ hm _ _ _ hP hD hS (lv_sub hl [1, 0] rfl)
def m_Model_keep (n : Nat) (i : Nat → Int32) (j : Nat → Int64) (a : Nat → Nat → Int32) (b : Nat → Nat → Int64)  : Option ((Nat → Int32) × (Nat → Int64) × (Nat → Nat → Int32) × (Nat → Nat → Int64) × Int32) := cy ((0 : Int32)) ((0 : Int32)) ((40 : Int32)) 40 40 (ob1 (updA a 49 (va_cpy (a 29) (a 49) (0 : Int32).toNatClampNeg (0 : Int32).toNatClampNeg (40 : Int32).toNatClampNeg) : Nat → Nat → Int32) (fun a_2 => cy ((0 : Int32)) ((0 : Int32)) ((40 : Int32)) 40 40 (ob1 (updA a_2 50 (va_cpy (a_2 30) (a_2 50) (0 : Int32).toNatClampNeg (0 : Int32).toNatClampNeg (40 : Int32).toNatClampNeg) : Nat → Nat → Int32) (fun a_4 => cy ((0 : Int32)) ((0 : Int32)) ((200 : Int32)) 200 200 (ob1 (updA a_4 51 (va_cpy (a_4 31) (a_4 51) (0 : Int32).toNatClampNeg (0 : Int32).toNatClampNeg (200 : Int32).toNatClampNeg) : Nat → Nat → Int32) (fun a_6 => cy ((0 : Int32)) ((0 : Int32)) ((40 : Int32)) 40 40 (ob1 (updB b 55 (va_cpy (b 32) (b 55) (0 : Int32).toNatClampNeg (0 : Int32).toNatClampNeg (40 : Int32).toNatClampNeg) : Nat → Nat → Int64) (fun b_8 => cy ((0 : Int32)) ((0 : Int32)) ((64 : Int32)) 64 64 (ob1 (updA a_6 52 (va_cpy (a_6 34) (a_6 52) (0 : Int32).toNatClampNeg (0 : Int32).toNatClampNeg (64 : Int32).toNatClampNeg) : Nat → Nat → Int32) (fun a_10 => cy ((0 : Int32)) ((0 : Int32)) ((64 : Int32)) 64 64 (ob1 (updB b_8 56 (va_cpy (b_8 35) (b_8 56) (0 : Int32).toNatClampNeg (0 : Int32).toNatClampNeg (64 : Int32).toNatClampNeg) : Nat → Nat → Int64) (fun b_12 => m_Model_keep_b93 n n i j a_10 b_12 (0 : Int32)))))))))))))
set_option maxHeartbeats 4000000 in
set_option maxRecDepth 100000 in
theorem x_Model_keep (l : Launch) (dC : Nat → ClassId) (dI : Nat → Nat → Nat) (cI cJ cB : ClassId) (adK adV adA : Nat → Nat) (h : Nat) (v : Nat → Nat) (sz : Nat) (n : Nat) {i : Nat → Int32} {j : Nat → Int64} {a : Nat → Nat → Int32} {b : Nat → Nat → Int64}  {i2 : Nat → Int32} {j2 : Nat → Int64} {a2 : Nat → Nat → Int32} {b2 : Nat → Nat → Int64} {r2 : Int32} (hm : m_Model_keep n i j a b = some (i2, j2, a2, b2, r2)) : Met l y_Model_keep w_Model_keep ({ frames := 1, cells := 0, slots := 0, locals := 40 } : Room) (va_Pc [.ref h] (yE dC dI cI cJ cB adK adV adA h v i j a b sz)) (va_Qv xV (yB dC dI cI cJ cB h v i2 j2 a2 b2 (va_A (MW cI cJ cB h v i j a b) sz)) (va_A (MW cI cJ cB h v i j a b) sz)) 0 0 ((va_A (MW cI cJ cB h v i j a b) sz)) := by
  refine Met.ofW (cc := b_Model_keep) (maxL := 2) (ret := none) (by decide) rfl ?_
  intro p e s m args below meth c s₁ B hml hv
  obtain ⟨rfl, hsz, hP, hK, hE, hD0⟩ := hv
  have hx := B.exec
  have hb := B.bytes
  have hr := B.returns
  have hts := atoms_spec (ws := w_Model_keep) B.pre
  have htt : ∀ w ∈ tw_T, w.before _ s = true := fun w h => hts w (List.mem_cons_of_mem _ h)
  have hown : s.vm.findClass R_Model = some m.cls := findClass_of_methodNamed B.named
  have hlocks := B.notSynchronized
  subst hsz
  have hD := hD0.self (sz := s.heap.size)
  generalize hAe : (va_A (MW cI cJ cB h v i j a b) s.heap.size) = A at hD hE ⊢
  have hA : ∀ q : Nat, s.heap.size ≤ q → A q := fun q h => by rw [← hAe]; exact Or.inr h
  have hS : va_S A s.heap s.heap [] := va_S.rf
  have hl := lv_entry ([.ref h]) (n := 2) (Nat.le_of_ble_eq_true rfl)
  rw [lg_entry_eq]
  generalize (lg_sl ([.ref h]) ++ List.replicate (2 - (lg_sl ([.ref h])).length) Slot.unset).toArray = ls at hl ⊢
  have hl : lv_has ls 2 [(0, .ref h)] := hl
  rw [m_Model_keep] at hm
  refine lv_aload_n hx hb d_Model_keep_0 rfl (lv_at hl 0 rfl) ?_
  refine va_get (D := (dC, dI)) (ci := 12) (v := .ref ((v 29))) (C := R_Model) (T := F_Model) (N := 127) hx hb htt iw_Model hown hK hP 0 yo_12 rfl 29 (Nat.le_of_ble_eq_true rfl) (htt _ lk_Model_183) (fun _ h9 => h9) yg_29 d_Model_keep_1 ?_
  refine lv_iconst (v := 0) hx hb d_Model_keep_4 (by decide) ?_
  refine lv_aload_n hx hb d_Model_keep_5 rfl (lv_at hl 0 rfl) ?_
  refine va_get (D := (dC, dI)) (ci := 12) (v := .ref ((v 49))) (C := R_Model) (T := F_Model) (N := 127) hx hb htt iw_Model hown hK hP 0 yo_12 rfl 49 (Nat.le_of_ble_eq_true rfl) (htt _ lk_Model_228) (fun _ h9 => h9) yg_49 d_Model_keep_6 ?_
  refine lv_iconst (v := 0) hx hb d_Model_keep_9 (by decide) ?_
  refine lv_bipush (v := 40) hx hb d_Model_keep_10 (by decide) ?_
  obtain ⟨h_1a, h_1b, h_1c, h_1d, h_1e, hm⟩ := cy_some hm
  refine va_copyi hx hb (by rw [hml]; exact hl.1.symm) hown (htt _ lk_Model_334) (htt _ na_arraycopy) (htt _ st_arraycopy) (htt _ ini_System) hK hP hD hS 23 38 0 0 (ty := .int) ya_29 ya_49 rfl rfl rfl h_1a h_1b h_1c h_1d h_1e (fun _ _ => rfl) (Nat.le_of_ble_eq_true rfl) (Nat.le_of_ble_eq_true rfl) d_Model_keep_12 (fun H locs hP hD hS => ?_)
  obtain ⟨a_2, ea_2⟩ : ∃ y9 : Nat → Nat → Int32, y9 = updA a 49 (va_cpy (a 29) (a 49) (0 : Int32).toNatClampNeg (0 : Int32).toNatClampNeg (40 : Int32).toNatClampNeg) := ⟨_, rfl⟩
  replace hm := ob1_at ea_2 hm
  obtain ⟨hP, hD⟩ := yv_49 ea_2 hP hD
  refine lv_aload_n hx hb d_Model_keep_15 rfl (lv_at hl 0 rfl) ?_
  refine va_get (D := (dC, dI)) (ci := 12) (v := .ref ((v 30))) (C := R_Model) (T := F_Model) (N := 127) hx hb htt iw_Model hown hK hP 0 yo_12 rfl 30 (Nat.le_of_ble_eq_true rfl) (htt _ lk_Model_186) (fun _ h9 => h9) yg_30 d_Model_keep_16 ?_
  refine lv_iconst (v := 0) hx hb d_Model_keep_19 (by decide) ?_
  refine lv_aload_n hx hb d_Model_keep_20 rfl (lv_at hl 0 rfl) ?_
  refine va_get (D := (dC, dI)) (ci := 12) (v := .ref ((v 50))) (C := R_Model) (T := F_Model) (N := 127) hx hb htt iw_Model hown hK hP 0 yo_12 rfl 50 (Nat.le_of_ble_eq_true rfl) (htt _ lk_Model_231) (fun _ h9 => h9) yg_50 d_Model_keep_21 ?_
  refine lv_iconst (v := 0) hx hb d_Model_keep_24 (by decide) ?_
  refine lv_bipush (v := 40) hx hb d_Model_keep_25 (by decide) ?_
  obtain ⟨h_3a, h_3b, h_3c, h_3d, h_3e, hm⟩ := cy_some hm
  refine va_copyi hx hb (by rw [hml]; exact hl.1.symm) hown (htt _ lk_Model_334) (htt _ na_arraycopy) (htt _ st_arraycopy) (htt _ ini_System) hK hP hD hS 24 39 0 0 (ty := .int) ya_30 ya_50 rfl rfl rfl h_3a h_3b h_3c h_3d h_3e (fun _ _ => rfl) (Nat.le_of_ble_eq_true rfl) (Nat.le_of_ble_eq_true rfl) d_Model_keep_27 (fun H locs hP hD hS => ?_)
  obtain ⟨a_4, ea_4⟩ : ∃ y9 : Nat → Nat → Int32, y9 = updA a_2 50 (va_cpy (a_2 30) (a_2 50) (0 : Int32).toNatClampNeg (0 : Int32).toNatClampNeg (40 : Int32).toNatClampNeg) := ⟨_, rfl⟩
  replace hm := ob1_at ea_4 hm
  obtain ⟨hP, hD⟩ := yv_50 ea_4 hP hD
  refine lv_aload_n hx hb d_Model_keep_30 rfl (lv_at hl 0 rfl) ?_
  refine va_get (D := (dC, dI)) (ci := 12) (v := .ref ((v 31))) (C := R_Model) (T := F_Model) (N := 127) hx hb htt iw_Model hown hK hP 0 yo_12 rfl 31 (Nat.le_of_ble_eq_true rfl) (htt _ lk_Model_189) (fun _ h9 => h9) yg_31 d_Model_keep_31 ?_
  refine lv_iconst (v := 0) hx hb d_Model_keep_34 (by decide) ?_
  refine lv_aload_n hx hb d_Model_keep_35 rfl (lv_at hl 0 rfl) ?_
  refine va_get (D := (dC, dI)) (ci := 12) (v := .ref ((v 51))) (C := R_Model) (T := F_Model) (N := 127) hx hb htt iw_Model hown hK hP 0 yo_12 rfl 51 (Nat.le_of_ble_eq_true rfl) (htt _ lk_Model_234) (fun _ h9 => h9) yg_51 d_Model_keep_36 ?_
  refine lv_iconst (v := 0) hx hb d_Model_keep_39 (by decide) ?_
  refine lv_sipush (v := 200) hx hb d_Model_keep_40 (by decide) ?_
  obtain ⟨h_5a, h_5b, h_5c, h_5d, h_5e, hm⟩ := cy_some hm
  refine va_copyi hx hb (by rw [hml]; exact hl.1.symm) hown (htt _ lk_Model_334) (htt _ na_arraycopy) (htt _ st_arraycopy) (htt _ ini_System) hK hP hD hS 25 40 0 0 (ty := .int) ya_31 ya_51 rfl rfl rfl h_5a h_5b h_5c h_5d h_5e (fun _ _ => rfl) (Nat.le_of_ble_eq_true rfl) (Nat.le_of_ble_eq_true rfl) d_Model_keep_43 (fun H locs hP hD hS => ?_)
  obtain ⟨a_6, ea_6⟩ : ∃ y9 : Nat → Nat → Int32, y9 = updA a_4 51 (va_cpy (a_4 31) (a_4 51) (0 : Int32).toNatClampNeg (0 : Int32).toNatClampNeg (200 : Int32).toNatClampNeg) := ⟨_, rfl⟩
  replace hm := ob1_at ea_6 hm
  obtain ⟨hP, hD⟩ := yv_51 ea_6 hP hD
  refine lv_aload_n hx hb d_Model_keep_46 rfl (lv_at hl 0 rfl) ?_
  refine va_get (D := (dC, dI)) (ci := 12) (v := .ref ((v 32))) (C := R_Model) (T := F_Model) (N := 127) hx hb htt iw_Model hown hK hP 0 yo_12 rfl 32 (Nat.le_of_ble_eq_true rfl) (htt _ lk_Model_192) (fun _ h9 => h9) yg_32 d_Model_keep_47 ?_
  refine lv_iconst (v := 0) hx hb d_Model_keep_50 (by decide) ?_
  refine lv_aload_n hx hb d_Model_keep_51 rfl (lv_at hl 0 rfl) ?_
  refine va_get (D := (dC, dI)) (ci := 12) (v := .ref ((v 55))) (C := R_Model) (T := F_Model) (N := 127) hx hb htt iw_Model hown hK hP 0 yo_12 rfl 55 (Nat.le_of_ble_eq_true rfl) (htt _ lk_Model_246) (fun _ h9 => h9) yg_55 d_Model_keep_52 ?_
  refine lv_iconst (v := 0) hx hb d_Model_keep_55 (by decide) ?_
  refine lv_bipush (v := 40) hx hb d_Model_keep_56 (by decide) ?_
  obtain ⟨h_7a, h_7b, h_7c, h_7d, h_7e, hm⟩ := cy_some hm
  refine va_copyl hx hb (by rw [hml]; exact hl.1.symm) hown (htt _ lk_Model_334) (htt _ na_arraycopy) (htt _ st_arraycopy) (htt _ ini_System) hK hP hD hS 26 44 1 1 (ty := .long) ya_32 ya_55 rfl rfl rfl h_7a h_7b h_7c h_7d h_7e (fun _ _ => rfl) (Nat.le_of_ble_eq_true rfl) (Nat.le_of_ble_eq_true rfl) d_Model_keep_58 (fun H locs hP hD hS => ?_)
  obtain ⟨b_8, eb_8⟩ : ∃ y9 : Nat → Nat → Int64, y9 = updB b 55 (va_cpy (b 32) (b 55) (0 : Int32).toNatClampNeg (0 : Int32).toNatClampNeg (40 : Int32).toNatClampNeg) := ⟨_, rfl⟩
  replace hm := ob1_at eb_8 hm
  obtain ⟨hP, hD⟩ := yv_55 eb_8 hP hD
  refine lv_aload_n hx hb d_Model_keep_61 rfl (lv_at hl 0 rfl) ?_
  refine va_get (D := (dC, dI)) (ci := 12) (v := .ref ((v 34))) (C := R_Model) (T := F_Model) (N := 127) hx hb htt iw_Model hown hK hP 0 yo_12 rfl 34 (Nat.le_of_ble_eq_true rfl) (htt _ lk_Model_195) (fun _ h9 => h9) yg_34 d_Model_keep_62 ?_
  refine lv_iconst (v := 0) hx hb d_Model_keep_65 (by decide) ?_
  refine lv_aload_n hx hb d_Model_keep_66 rfl (lv_at hl 0 rfl) ?_
  refine va_get (D := (dC, dI)) (ci := 12) (v := .ref ((v 52))) (C := R_Model) (T := F_Model) (N := 127) hx hb htt iw_Model hown hK hP 0 yo_12 rfl 52 (Nat.le_of_ble_eq_true rfl) (htt _ lk_Model_237) (fun _ h9 => h9) yg_52 d_Model_keep_67 ?_
  refine lv_iconst (v := 0) hx hb d_Model_keep_70 (by decide) ?_
  refine lv_bipush (v := 64) hx hb d_Model_keep_71 (by decide) ?_
  obtain ⟨h_9a, h_9b, h_9c, h_9d, h_9e, hm⟩ := cy_some hm
  refine va_copyi hx hb (by rw [hml]; exact hl.1.symm) hown (htt _ lk_Model_334) (htt _ na_arraycopy) (htt _ st_arraycopy) (htt _ ini_System) hK hP hD hS 27 41 0 0 (ty := .int) ya_34 ya_52 rfl rfl rfl h_9a h_9b h_9c h_9d h_9e (fun _ _ => rfl) (Nat.le_of_ble_eq_true rfl) (Nat.le_of_ble_eq_true rfl) d_Model_keep_73 (fun H locs hP hD hS => ?_)
  obtain ⟨a_10, ea_10⟩ : ∃ y9 : Nat → Nat → Int32, y9 = updA a_6 52 (va_cpy (a_6 34) (a_6 52) (0 : Int32).toNatClampNeg (0 : Int32).toNatClampNeg (64 : Int32).toNatClampNeg) := ⟨_, rfl⟩
  replace hm := ob1_at ea_10 hm
  obtain ⟨hP, hD⟩ := yv_52 ea_10 hP hD
  refine lv_aload_n hx hb d_Model_keep_76 rfl (lv_at hl 0 rfl) ?_
  refine va_get (D := (dC, dI)) (ci := 12) (v := .ref ((v 35))) (C := R_Model) (T := F_Model) (N := 127) hx hb htt iw_Model hown hK hP 0 yo_12 rfl 35 (Nat.le_of_ble_eq_true rfl) (htt _ lk_Model_198) (fun _ h9 => h9) yg_35 d_Model_keep_77 ?_
  refine lv_iconst (v := 0) hx hb d_Model_keep_80 (by decide) ?_
  refine lv_aload_n hx hb d_Model_keep_81 rfl (lv_at hl 0 rfl) ?_
  refine va_get (D := (dC, dI)) (ci := 12) (v := .ref ((v 56))) (C := R_Model) (T := F_Model) (N := 127) hx hb htt iw_Model hown hK hP 0 yo_12 rfl 56 (Nat.le_of_ble_eq_true rfl) (htt _ lk_Model_249) (fun _ h9 => h9) yg_56 d_Model_keep_82 ?_
  refine lv_iconst (v := 0) hx hb d_Model_keep_85 (by decide) ?_
  refine lv_bipush (v := 64) hx hb d_Model_keep_86 (by decide) ?_
  obtain ⟨h_11a, h_11b, h_11c, h_11d, h_11e, hm⟩ := cy_some hm
  refine va_copyl hx hb (by rw [hml]; exact hl.1.symm) hown (htt _ lk_Model_334) (htt _ na_arraycopy) (htt _ st_arraycopy) (htt _ ini_System) hK hP hD hS 28 45 1 1 (ty := .long) ya_35 ya_56 rfl rfl rfl h_11a h_11b h_11c h_11d h_11e (fun _ _ => rfl) (Nat.le_of_ble_eq_true rfl) (Nat.le_of_ble_eq_true rfl) d_Model_keep_88 (fun H locs hP hD hS => ?_)
  obtain ⟨b_12, eb_12⟩ : ∃ y9 : Nat → Nat → Int64, y9 = updB b_8 56 (va_cpy (b_8 35) (b_8 56) (0 : Int32).toNatClampNeg (0 : Int32).toNatClampNeg (64 : Int32).toNatClampNeg) := ⟨_, rfl⟩
  replace hm := ob1_at eb_12 hm
  obtain ⟨hP, hD⟩ := yv_56 eb_12 hP hD
  refine lv_iconst (v := 0) hx hb d_Model_keep_91 (by decide) ?_
  refine lv_istore_n (lv' := [(1, .int 0), (0, .ref h)]) hx hb d_Model_keep_92 rfl hl (by decide) rfl (fun ls hl => ?_)
  exact lb_Model_keep_93 l dC dI cI cJ cB adK adV adA h v n hx hb hml hown hts hK hE hA hr hlocks n _ _ _ _ _ hm _ _ _ hP hD hS (lv_sub hl [1, 0] rfl)

def m_Model_size (n : Nat) (i : Nat → Int32) (j : Nat → Int64) (a : Nat → Nat → Int32) (b : Nat → Nat → Int64) (v1 : Int64) : Option (Int32) := ob0 (m_Model_what n v1) (fun r_2 => ck r_2 90000 (some (a 13 r_2.toNatClampNeg)))
set_option maxHeartbeats 4000000 in
set_option maxRecDepth 100000 in
theorem x_Model_size (l : Launch) (dC : Nat → ClassId) (dI : Nat → Nat → Nat) (cI cJ cB : ClassId) (adK adV adA : Nat → Nat) (h : Nat) (v : Nat → Nat) (sz : Nat) (n : Nat) {i : Nat → Int32} {j : Nat → Int64} {a : Nat → Nat → Int32} {b : Nat → Nat → Int64} {v1 : Int64} {r2 : Int32} (hm : m_Model_size n i j a b v1 = some r2) : Met l y_Model_size w_Model_size ({ frames := 1, cells := 0, slots := 0, locals := 21 } : Room) (va_Pc [.ref h, .long v1] (yEr dC dI cI cJ cB adK adV adA h v i j a b sz)) (va_Qi (xR r2) xT (xN sz)) 0 0 (xN sz) := by
  refine Met.ofW (cc := b_Model_size) (maxL := 3) (ret := (some .int)) (by decide) rfl ?_
  intro p e s m args below meth c s₁ B hml hv
  obtain ⟨rfl, hsz, hP, hK, hE⟩ := hv
  have hx := B.exec
  have hb := B.bytes
  have hr := B.returns
  have hts := atoms_spec (ws := w_Model_size) B.pre
  have htt : ∀ w ∈ tw_T, w.before _ s = true := fun w h => hts w (List.mem_cons_of_mem _ h)
  have hown : s.vm.findClass R_Model = some m.cls := findClass_of_methodNamed B.named
  have hlocks := B.notSynchronized
  subst hsz
  generalize hAe : xN s.heap.size = A at hE ⊢
  have hA : ∀ q : Nat, s.heap.size ≤ q → A q := fun q h => by rw [← hAe]; exact Or.inr h
  have hS : va_S A s.heap s.heap [] := va_S.rf
  have hl := lv_entry ([.ref h, .long v1]) (n := 3) (Nat.le_of_ble_eq_true rfl)
  rw [lg_entry_eq]
  generalize (lg_sl ([.ref h, .long v1]) ++ List.replicate (3 - (lg_sl ([.ref h, .long v1])).length) Slot.unset).toArray = ls at hl ⊢
  have hl : lv_has ls 3 [(0, .ref h), (1, .long v1)] := hl
  rw [m_Model_size] at hm
  refine lv_aload_n hx hb d_Model_size_0 rfl (lv_at hl 0 rfl) ?_
  refine va_get (D := (dC, dI)) (ci := 12) (v := .ref ((v 13))) (C := R_Model) (T := F_Model) (N := 127) hx hb htt iw_Model hown hK hP 0 yo_12 rfl 13 (Nat.le_of_ble_eq_true rfl) (htt _ lk_Model_47) (fun _ h9 => h9) yg_13 d_Model_size_1 ?_
  refine lv_lload_n hx hb d_Model_size_4 rfl (lv_at hl 1 rfl) ?_
  obtain ⟨r_2, h_1, hm⟩ := ob0_some hm
  have hFc := x_free0 hS hA
  refine va_calli (va_runS (As := [.long v1]) (rest := [.ref ((v 13))]) ⟨hx, hb, hml, hown, hts⟩ (x_Model_what l s.heap.size n h_1) (va_cwS 1 hts (tw_GS tw_cons cw_Model_what lk_Model_64 st_Model_what ini_Model) rfl rfl rfl hd_Model_what ⟨Nat.le_of_ble_eq_true rfl, Nat.le_of_ble_eq_true rfl⟩) xpS0 rfl rfl hl.1 rfl (lv_room (Nat.le_of_ble_eq_true rfl)) d_Model_size_5 ⟨Nat.le_of_ble_eq_true rfl, Nat.le_of_ble_eq_true rfl⟩) hS (fun q _ h => hFc q h) hFc (fun r9 u9 t9 H locs ht hvm e9 hB hz1 hk1 hS => ?_)
  have e9 : r_2 = r9 := e9
  subst e9
  replace hP := x_keep hP hk1
  clear hFc hk1 hz1 hvm hB ht
  obtain ⟨h_3, hm⟩ := ck_some hm
  refine va_iald hx hb hK hP 13 0 ya_13 rfl h_3 d_Model_size_8 ?_
  have e3 := re1 hm
  exact W.iret hx hb hr (fun t9 ht hW => ⟨⟨_, (), rfl, e3.symm, trivial⟩, hS.F ht⟩) hS.2.2 d_Model_size_9

def m_Model_told_b2 (n : Nat) : Nat → (Nat → Int32) → (Nat → Int64) → (Nat → Nat → Int32) → (Nat → Nat → Int64) → Nat → Int32 → Option ((Nat → Int32) × (Nat → Int64) × (Nat → Nat → Int32) × (Nat → Nat → Int64) × Int64)
  | 0, _, _, _, _, _, _ => none
  | f + 1, i, j, a, b, t1, v2 => ct t1 (if ((nI (tw_len.getD t1 0))) ≤ v2 then om (m_Model_newWord n i j a b (i 18) (nI (tw_len.getD t1 0))) (fun i_3 j_4 a_5 b_6 r_7 => ob0 (m_Model_wordValue n r_7) (fun r_9 => ob1 ((i_3 18) + (nI (tw_len.getD t1 0)) : Int32) (fun x_10 => ob1 (upd i_3 18 x_10 : Nat → Int32) (fun i_11 => some (i_11, j_4, a_5, b_6, r_9))))) else cs v2 (tw_len.getD t1 0) (ck (((i 18) + v2)) 300000 (ob1 (sv a 1 ((i 18) + v2).toNatClampNeg (vp_nar .byte ((tw_bt t1 v2.toNatClampNeg &&& 255).toInt8.toInt32)) : Nat → Nat → Int32) (fun a_14 => ob1 (v2 + 1 : Int32) (fun x_15 => m_Model_told_b2 n f i j a_14 b t1 x_15)))))
set_option maxHeartbeats 4000000 in
set_option maxRecDepth 100000 in
theorem lb_Model_told_2 (l : Launch) (dC : Nat → ClassId) (dI : Nat → Nat → Nat) (cI cJ cB : ClassId) (adK adV adA : Nat → Nat) (h : Nat) (v : Nat → Nat) (n : Nat) {p : Program} {e : Env} {s : State} {m : MethodId} {args : Array Value} {below : List Frame} {meth : Method} {c : Code} {A : Nat → Prop} (hx : p.tables.exec = Jvm.exec) (hb : c.code = b_Model_told) (hml : c.maxLocals = 4) (hown : s.vm.findClass R_Model = some m.cls) (hts : ∀ w ∈ w_Model_told, w.before args s = true) (hK : va_K (dC, dI) classes [(cI, .int), (cJ, .long), (cB, .byte)] s) (hE : tw_E adK adV adA A s s.heap) (hA : ∀ q : Nat, s.heap.size ≤ q → A q) (hr : meth.sig.returnType = (some .long)) (hlocks : meth.locks = false) {i2 : Nat → Int32} {j2 : Nat → Int64} {a2 : Nat → Nat → Int32} {b2 : Nat → Nat → Int64} {r2 : Int64} : ∀ (f : Nat) (i : Nat → Int32) (j : Nat → Int64) (a : Nat → Nat → Int32) (b : Nat → Nat → Int64) (t1 : Nat) (v2 : Int32), m_Model_told_b2 n f i j a b t1 v2 = some (i2, j2, a2, b2, r2) → ∀ (H : Heap) (locs : List Loc) (ls : Array Slot), va_P (dC, dI) classes (MW cI cJ cB h v i j a b) H → va_D A (MW cI cJ cB h v i j a b) → va_S A s.heap H locs → lv_has ls 4 [(0, .ref h), (1, .ref ((adK t1))), (2, .int v2)] → W p l e ({ frames := 4, cells := 0, slots := 0, locals := 85 } : Room) s m args below meth c H locs 0 0 (MQ below (va_Ql (xR r2) (yB dC dI cI cJ cB h v i2 j2 a2 b2 A) A) args s 0 0 A) (F0 m 2 ls []) := by
  have htt : ∀ w ∈ tw_T, w.before _ s = true := fun w h => hts w (List.mem_cons_of_mem _ h)
  intro f
  induction f with
  | zero =>
    intro i j a b t1 v2 hm
    rw [m_Model_told_b2] at hm
    cases hm
  | succ f ih =>
    intro i j a b t1 v2 hm H locs ls hP hD hS hl
    rw [m_Model_told_b2] at hm
    obtain ⟨ht1, hm⟩ := ct_some hm
    refine lv_iload_n hx hb d_Model_told_2 rfl (lv_at hl 2 rfl) ?_
    refine lv_aload_n hx hb d_Model_told_3 rfl (lv_at hl 1 rfl) ?_
    have hFc := x_free0 hS hA
    refine va_calli (va_runV (As := []) (rest := [.int v2]) ⟨hx, hb, hml, hown, hts⟩ (c_String_length l dC dI H.size (adK t1) (adV t1) (tw_len.getD t1 0) (tw_bt t1)) (cwV 0 hts (tw_GV tw_cons cw_String_length lk_Model_75 in_String_length sel_String_length ini_String) rfl rfl rfl ⟨rfl, hd_String_length⟩ ⟨Nat.le_of_ble_eq_true rfl, Nat.le_of_ble_eq_true rfl⟩) (ypStr hK hS (hE.str t1 ht1) hFc) rfl rfl hl.1 rfl (lv_room (Nat.le_of_ble_eq_true rfl)) d_Model_told_4 ⟨Nat.le_of_ble_eq_true rfl, Nat.le_of_ble_eq_true rfl⟩) hS (fun q _ h => hFc q h) hFc (fun r9 u9 t9 H locs ht hvm e9 hB hz1 hk1 hS => ?_)
    have e9 : r9 = nI (tw_len.getD t1 0) := e9
    subst e9
    replace hP := x_keep hP hk1
    clear hFc hk1 hz1 hvm hB ht
    refine lv_icmp_ge (tgt := 33) hx hb d_Model_told_7 (by decide) (fun c_1 => ?_) (fun c_1 => ?_)
    · replace hm := if_t c_1 hm
      refine lv_aload_n hx hb d_Model_told_33 rfl (lv_at hl 0 rfl) ?_
      refine lv_aload_n hx hb d_Model_told_34 rfl (lv_at hl 0 rfl) ?_
      refine va_get (D := (dC, dI)) (ci := 12) (v := .int (i 18)) (C := R_Model) (T := F_Model) (N := 127) hx hb htt iw_Model hown hK hP 0 yo_12 rfl 18 (Nat.le_of_ble_eq_true rfl) (htt _ lk_Model_372) (fun _ h9 => h9) yg_18 d_Model_told_35 ?_
      refine lv_aload_n hx hb d_Model_told_38 rfl (lv_at hl 1 rfl) ?_
      have hFc := x_free0 hS hA
      refine va_calli (va_runV (As := []) (rest := [.int (i 18), .ref h]) ⟨hx, hb, hml, hown, hts⟩ (c_String_length l dC dI H.size (adK t1) (adV t1) (tw_len.getD t1 0) (tw_bt t1)) (cwV 0 hts (tw_GV tw_cons cw_String_length lk_Model_75 in_String_length sel_String_length ini_String) rfl rfl rfl ⟨rfl, hd_String_length⟩ ⟨Nat.le_of_ble_eq_true rfl, Nat.le_of_ble_eq_true rfl⟩) (ypStr hK hS (hE.str t1 ht1) hFc) rfl rfl hl.1 rfl (lv_room (Nat.le_of_ble_eq_true rfl)) d_Model_told_39 ⟨Nat.le_of_ble_eq_true rfl, Nat.le_of_ble_eq_true rfl⟩) hS (fun q _ h => hFc q h) hFc (fun r9 u9 t9 H locs ht hvm e9 hB hz1 hk1 hS => ?_)
      have e9 : r9 = nI (tw_len.getD t1 0) := e9
      subst e9
      replace hP := x_keep hP hk1
      clear hFc hk1 hz1 hvm hB ht
      obtain ⟨i_3, j_4, a_5, b_6, r_7, h_2, hm⟩ := om_some hm
      have hFc := x_free hD hS hA
      refine va_calli (va_runV (As := [.int (i 18), .int (nI (tw_len.getD t1 0))]) (rest := []) ⟨hx, hb, hml, hown, hts⟩ (x_Model_newWord l dC dI cI cJ cB adK adV adA h v H.size n h_2) (cwV 2 hts (tw_GV tw_cons cw_Model_newWord lk_Model_454 in_Model_newWord sel_Model_newWord ini_Model) rfl rfl rfl ⟨rfl, hd_Model_newWord⟩ ⟨Nat.le_of_ble_eq_true rfl, Nat.le_of_ble_eq_true rfl⟩) (ypV hK hP hD hS hE hFc yo_12 rfl) rfl rfl hl.1 rfl (lv_room (Nat.le_of_ble_eq_true rfl)) d_Model_told_42 ⟨Nat.le_of_ble_eq_true rfl, Nat.le_of_ble_eq_true rfl⟩) hS (fun q _ h => hFc q h) hFc (fun r9 u9 t9 H locs ht hvm e9 hB hz1 hk1 hS => ?_)
      have e9 : r_7 = r9 := e9
      subst e9
      obtain ⟨hP, hD⟩ := y_aft hB ht hFc
      clear hFc hk1 hz1 hvm hB ht
      obtain ⟨r_9, h_8, hm⟩ := ob0_some hm
      have hFc := x_free0 hS hA
      refine va_calll (va_runS (As := [.int r_7]) (rest := []) ⟨hx, hb, hml, hown, hts⟩ (x_Model_wordValue l H.size n h_8) (va_cwS 1 hts (tw_GS tw_cons cw_Model_wordValue lk_Model_396 st_Model_wordValue ini_Model) rfl rfl rfl hd_Model_wordValue ⟨Nat.le_of_ble_eq_true rfl, Nat.le_of_ble_eq_true rfl⟩) xpS0 rfl rfl hl.1 rfl (lv_room (Nat.le_of_ble_eq_true rfl)) d_Model_told_45 ⟨Nat.le_of_ble_eq_true rfl, Nat.le_of_ble_eq_true rfl⟩) hS (fun q _ h => hFc q h) hFc (fun r9 u9 t9 H locs ht hvm e9 hB hz1 hk1 hS => ?_)
      have e9 : r_9 = r9 := e9
      subst e9
      replace hP := x_keep hP hk1
      clear hFc hk1 hz1 hvm hB ht
      refine lv_lstore_n (lv' := [(2, .long r_9), (0, .ref h), (1, .ref ((adK t1)))]) hx hb d_Model_told_48 rfl hl (by decide) rfl (fun ls hl => ?_)
      refine lv_aload_n hx hb d_Model_told_49 rfl (lv_at hl 1 rfl) ?_
      refine lv_dup hx hb d_Model_told_50 rfl ?_
      refine va_get (D := (dC, dI)) (ci := 12) (v := .int (i_3 18)) (C := R_Model) (T := F_Model) (N := 127) hx hb htt iw_Model hown hK hP 0 yo_12 rfl 18 (Nat.le_of_ble_eq_true rfl) (htt _ lk_Model_372) (fun _ h9 => h9) yg_18 d_Model_told_51 ?_
      refine lv_aload_n hx hb d_Model_told_54 rfl (lv_at hl 2 rfl) ?_
      have hFc := x_free0 hS hA
      refine va_calli (va_runV (As := []) (rest := [.int (i_3 18), .ref h]) ⟨hx, hb, hml, hown, hts⟩ (c_String_length l dC dI H.size (adK t1) (adV t1) (tw_len.getD t1 0) (tw_bt t1)) (cwV 0 hts (tw_GV tw_cons cw_String_length lk_Model_75 in_String_length sel_String_length ini_String) rfl rfl rfl ⟨rfl, hd_String_length⟩ ⟨Nat.le_of_ble_eq_true rfl, Nat.le_of_ble_eq_true rfl⟩) (ypStr hK hS (hE.str t1 ht1) hFc) rfl rfl hl.1 rfl (lv_room (Nat.le_of_ble_eq_true rfl)) d_Model_told_55 ⟨Nat.le_of_ble_eq_true rfl, Nat.le_of_ble_eq_true rfl⟩) hS (fun q _ h => hFc q h) hFc (fun r9 u9 t9 H locs ht hvm e9 hB hz1 hk1 hS => ?_)
      have e9 : r9 = nI (tw_len.getD t1 0) := e9
      subst e9
      replace hP := x_keep hP hk1
      clear hFc hk1 hz1 hvm hB ht
      refine lv_iadd hx hb d_Model_told_58 ?_
      refine lv_topi (fun x_10 ex_10 => ?_)
      replace hm := ob1_at ex_10 hm
      refine va_put (D := (dC, dI)) (ci := 12) (v := .int x_10) (ty := .int) (C := R_Model) (T := F_Model) (N := 127) hx hb htt iw_Model t_Model t_Model_ok n_Model hown hK hP hD hS 0 yo_12 rfl 18 (Nat.le_of_ble_eq_true rfl) (htt _ lk_Model_372) (fun _ h9 => h9) rfl (by decide +kernel) rfl rfl yl_18 d_Model_told_59 (fun H locs hP hD hS => ?_)
      obtain ⟨i_11, ei_11⟩ : ∃ y9 : Nat → Int32, y9 = upd i_3 18 x_10 := ⟨_, rfl⟩
      replace hm := ob1_at ei_11 hm
      obtain ⟨hP, hD⟩ := yw_18 ei_11 hP hD
      refine lv_lload_n hx hb d_Model_told_62 rfl (lv_at hl 0 rfl) ?_
      obtain ⟨e1i, e1j, e1a, e1b, e3⟩ := re4m hm
      obtain ⟨hP, hD⟩ := y_eq e1i e1j e1a e1b hP hD
      exact W.lret hx hb hr (fun t9 ht hW => ⟨⟨_, (), rfl, e3.symm, by rw [ht]; exact hP, hD⟩, hS.F ht⟩) hS.2.2 d_Model_told_63
    · replace hm := if_f c_1 hm
      refine lv_aload_n hx hb d_Model_told_10 rfl (lv_at hl 0 rfl) ?_
      refine va_get (D := (dC, dI)) (ci := 12) (v := .ref ((v 1))) (C := R_Model) (T := F_Model) (N := 127) hx hb htt iw_Model hown hK hP 0 yo_12 rfl 1 (Nat.le_of_ble_eq_true rfl) (htt _ lk_Model_67) (fun _ h9 => h9) yg_1 d_Model_told_11 ?_
      refine lv_aload_n hx hb d_Model_told_14 rfl (lv_at hl 0 rfl) ?_
      refine va_get (D := (dC, dI)) (ci := 12) (v := .int (i 18)) (C := R_Model) (T := F_Model) (N := 127) hx hb htt iw_Model hown hK hP 0 yo_12 rfl 18 (Nat.le_of_ble_eq_true rfl) (htt _ lk_Model_372) (fun _ h9 => h9) yg_18 d_Model_told_15 ?_
      refine lv_iload_n hx hb d_Model_told_18 rfl (lv_at hl 2 rfl) ?_
      refine lv_iadd hx hb d_Model_told_19 ?_
      refine lv_aload_n hx hb d_Model_told_20 rfl (lv_at hl 1 rfl) ?_
      refine lv_iload_n hx hb d_Model_told_21 rfl (lv_at hl 2 rfl) ?_
      have hFc := x_free0 hS hA
      obtain ⟨h_12a, h_12b, hm⟩ := cs_some hm
      refine va_calli (va_runV (As := [.int v2]) (rest := [.int ((i 18) + v2), .ref ((v 1))]) ⟨hx, hb, hml, hown, hts⟩ (c_String_charAt l dC dI H.size (adK t1) (adV t1) (tw_len.getD t1 0) (tw_bt t1) v2 h_12a h_12b) (cwV 1 hts (tw_GV tw_cons cw_String_charAt lk_Model_81 in_String_charAt sel_String_charAt ini_String) rfl rfl rfl ⟨rfl, hd_String_charAt⟩ ⟨Nat.le_of_ble_eq_true rfl, Nat.le_of_ble_eq_true rfl⟩) (ypStr hK hS (hE.str t1 ht1) hFc) rfl rfl hl.1 rfl (lv_room (Nat.le_of_ble_eq_true rfl)) d_Model_told_22 ⟨Nat.le_of_ble_eq_true rfl, Nat.le_of_ble_eq_true rfl⟩) hS (fun q _ h => hFc q h) hFc (fun r9 u9 t9 H locs ht hvm e9 hB hz1 hk1 hS => ?_)
      have e9 : r9 = tw_bt t1 v2.toNatClampNeg &&& 255 := e9
      subst e9
      replace hP := x_keep hP hk1
      clear hFc hk1 hz1 hvm hB ht
      refine lv_i2b hx hb d_Model_told_25 rfl ?_
      obtain ⟨h_13, hm⟩ := ck_some hm
      refine va_bast hx hb hK hP hD hS 1 2 ya_1 rfl h_13 d_Model_told_26 (fun H locs hP hD hS => ?_)
      obtain ⟨a_14, ea_14⟩ : ∃ y9 : Nat → Nat → Int32, y9 = sv a 1 ((i 18) + v2).toNatClampNeg (vp_nar .byte ((tw_bt t1 v2.toNatClampNeg &&& 255).toInt8.toInt32)) := ⟨_, rfl⟩
      replace hm := ob1_at ea_14 hm
      obtain ⟨hP, hD⟩ := yv_1 ea_14 hP hD
      obtain ⟨x_15, ex_15⟩ : ∃ y9 : Int32, y9 = v2 + 1 := ⟨_, rfl⟩
      replace hm := ob1_at ex_15 hm
      refine lv_iinc (v := x_15) (lv' := [(2, .int x_15), (0, .ref h), (1, .ref ((adK t1)))]) hx hb d_Model_told_27 hl (k := 2) rfl (by rw [ex_15]; rfl) (by decide) rfl (fun ls hl => ?_)
      refine lv_goto (tgt := 2) hx hb d_Model_told_30 (by decide) ?_
      exact ih _ _ _ _ _ _ hm _ _ _ hP hD hS (lv_sub hl [1, 2, 0] rfl)
def m_Model_told (n : Nat) (i : Nat → Int32) (j : Nat → Int64) (a : Nat → Nat → Int32) (b : Nat → Nat → Int64) (t1 : Nat) : Option ((Nat → Int32) × (Nat → Int64) × (Nat → Nat → Int32) × (Nat → Nat → Int64) × Int64) := ct t1 (m_Model_told_b2 n n i j a b t1 (0 : Int32))
set_option maxHeartbeats 4000000 in
set_option maxRecDepth 100000 in
theorem x_Model_told (l : Launch) (dC : Nat → ClassId) (dI : Nat → Nat → Nat) (cI cJ cB : ClassId) (adK adV adA : Nat → Nat) (h : Nat) (v : Nat → Nat) (sz : Nat) (n : Nat) {i : Nat → Int32} {j : Nat → Int64} {a : Nat → Nat → Int32} {b : Nat → Nat → Int64} {t1 : Nat} {i2 : Nat → Int32} {j2 : Nat → Int64} {a2 : Nat → Nat → Int32} {b2 : Nat → Nat → Int64} {r2 : Int64} (hm : m_Model_told n i j a b t1 = some (i2, j2, a2, b2, r2)) : Met l y_Model_told w_Model_told ({ frames := 4, cells := 0, slots := 0, locals := 85 } : Room) (va_Pc [.ref h, .ref ((adK t1))] (yE dC dI cI cJ cB adK adV adA h v i j a b sz)) (va_Ql (xR r2) (yB dC dI cI cJ cB h v i2 j2 a2 b2 (va_A (MW cI cJ cB h v i j a b) sz)) (va_A (MW cI cJ cB h v i j a b) sz)) 0 0 ((va_A (MW cI cJ cB h v i j a b) sz)) := by
  refine Met.ofW (cc := b_Model_told) (maxL := 4) (ret := (some .long)) (by decide) rfl ?_
  intro p e s m args below meth c s₁ B hml hv
  obtain ⟨rfl, hsz, hP, hK, hE, hD0⟩ := hv
  have hx := B.exec
  have hb := B.bytes
  have hr := B.returns
  have hts := atoms_spec (ws := w_Model_told) B.pre
  have htt : ∀ w ∈ tw_T, w.before _ s = true := fun w h => hts w (List.mem_cons_of_mem _ h)
  have hown : s.vm.findClass R_Model = some m.cls := findClass_of_methodNamed B.named
  have hlocks := B.notSynchronized
  subst hsz
  have hD := hD0.self (sz := s.heap.size)
  generalize hAe : (va_A (MW cI cJ cB h v i j a b) s.heap.size) = A at hD hE ⊢
  have hA : ∀ q : Nat, s.heap.size ≤ q → A q := fun q h => by rw [← hAe]; exact Or.inr h
  have hS : va_S A s.heap s.heap [] := va_S.rf
  have hl := lv_entry ([.ref h, .ref ((adK t1))]) (n := 4) (Nat.le_of_ble_eq_true rfl)
  rw [lg_entry_eq]
  generalize (lg_sl ([.ref h, .ref ((adK t1))]) ++ List.replicate (4 - (lg_sl ([.ref h, .ref ((adK t1))])).length) Slot.unset).toArray = ls at hl ⊢
  have hl : lv_has ls 4 [(0, .ref h), (1, .ref ((adK t1)))] := hl
  rw [m_Model_told] at hm
  obtain ⟨ht1, hm⟩ := ct_some hm
  refine lv_iconst (v := 0) hx hb d_Model_told_0 (by decide) ?_
  refine lv_istore_n (lv' := [(2, .int 0), (0, .ref h), (1, .ref ((adK t1)))]) hx hb d_Model_told_1 rfl hl (by decide) rfl (fun ls hl => ?_)
  exact lb_Model_told_2 l dC dI cI cJ cB adK adV adA h v n hx hb hml hown hts hK hE hA hr hlocks n _ _ _ _ _ _ hm _ _ _ hP hD hS (lv_sub hl [1, 2, 0] rfl)

def m_Model_asNumber_v1_b34 (n : Nat) : Nat → (Nat → Int32) → (Nat → Int64) → (Nat → Nat → Int32) → (Nat → Nat → Int64) → Int32 → Int32 → Int32 → Int64 → Int32 → Option ((Nat → Int32) × (Nat → Int64) × (Nat → Nat → Int32) × (Nat → Nat → Int64) × Int32)
  | 0, _, _, _, _, _, _, _, _, _ => none
  | f + 1, i, j, a, b, v2, v3, v4, v5, v7 => if v3 ≤ v7 then if ((lg_cmp v5 1000000000)) ≤ ((0 : Int32)) then if v4 = ((1 : Int32)) then ob1 ((-v5).toInt32 : Int32) (fun x_5 => ob1 (upd i 28 x_5 : Nat → Int32) (fun i_6 => some (i_6, j, a, b, 1))) else ob1 (upd i 28 v5.toInt32 : Nat → Int32) (fun i_4 => some (i_4, j, a, b, 1)) else some (i, j, a, b, 2) else ck ((v2 + v7)) 300000 (ob1 (a 1 (v2 + v7).toNatClampNeg : Int32) (fun x_8 => if x_8 < ((48 : Int32)) then some (i, j, a, b, 0) else if x_8 ≤ ((57 : Int32)) then ob0 (m_Math_min2 n (((v5 * 10) + x_8.toInt64) - 48) (10000000000 : Int64)) (fun r_12 => ob1 (v7 + 1 : Int32) (fun x_13 => m_Model_asNumber_v1_b34 n f i j a b v2 v3 v4 r_12 x_13)) else some (i, j, a, b, 0)))
set_option maxHeartbeats 4000000 in
set_option maxRecDepth 100000 in
theorem lb_Model_asNumber_v1_34 (l : Launch) (dC : Nat → ClassId) (dI : Nat → Nat → Nat) (cI cJ cB : ClassId) (adK adV adA : Nat → Nat) (h : Nat) (v : Nat → Nat) (n : Nat) {p : Program} {e : Env} {s : State} {m : MethodId} {args : Array Value} {below : List Frame} {meth : Method} {c : Code} {A : Nat → Prop} (hx : p.tables.exec = Jvm.exec) (hb : c.code = b_Model_asNumber) (hml : c.maxLocals = 9) (hown : s.vm.findClass R_Model = some m.cls) (hts : ∀ w ∈ w_Model_asNumber, w.before args s = true) (hK : va_K (dC, dI) classes [(cI, .int), (cJ, .long), (cB, .byte)] s) (hE : tw_E adK adV adA A s s.heap) (hA : ∀ q : Nat, s.heap.size ≤ q → A q) (hr : meth.sig.returnType = (some .int)) (hlocks : meth.locks = false) {i2 : Nat → Int32} {j2 : Nat → Int64} {a2 : Nat → Nat → Int32} {b2 : Nat → Nat → Int64} {r2 : Int32} : ∀ (f : Nat) (i : Nat → Int32) (j : Nat → Int64) (a : Nat → Nat → Int32) (b : Nat → Nat → Int64) (v2 : Int32) (v3 : Int32) (v4 : Int32) (v5 : Int64) (v7 : Int32), m_Model_asNumber_v1_b34 n f i j a b v2 v3 v4 v5 v7 = some (i2, j2, a2, b2, r2) → ∀ (H : Heap) (locs : List Loc) (ls : Array Slot), va_P (dC, dI) classes (MW cI cJ cB h v i j a b) H → va_D A (MW cI cJ cB h v i j a b) → va_S A s.heap H locs → lv_has ls 9 [(0, .ref h), (1, .ref ((v 1))), (2, .int v2), (3, .int v3), (4, .int v4), (5, .long v5), (7, .int v7)] → W p l e ({ frames := 1, cells := 0, slots := 0, locals := 23 } : Room) s m args below meth c H locs 0 0 (MQ below (va_Qi (xR r2) (yB dC dI cI cJ cB h v i2 j2 a2 b2 A) A) args s 0 0 A) (F0 m 34 ls []) := by
  have htt : ∀ w ∈ tw_T, w.before _ s = true := fun w h => hts w (List.mem_cons_of_mem _ h)
  intro f
  induction f with
  | zero =>
    intro i j a b v2 v3 v4 v5 v7 hm
    rw [m_Model_asNumber_v1_b34] at hm
    cases hm
  | succ f ih =>
    intro i j a b v2 v3 v4 v5 v7 hm H locs ls hP hD hS hl
    rw [m_Model_asNumber_v1_b34] at hm
    refine lv_iload hx hb d_Model_asNumber_34 (lv_at hl 6 rfl) ?_
    refine lv_iload_n hx hb d_Model_asNumber_36 rfl (lv_at hl 3 rfl) ?_
    refine lv_icmp_ge (tgt := 92) hx hb d_Model_asNumber_37 (by decide) (fun c_1 => ?_) (fun c_1 => ?_)
    · replace hm := if_t c_1 hm
      refine lv_lload hx hb d_Model_asNumber_92 (lv_at hl 5 rfl) ?_
      refine lv_ldc2 (v := 1000000000) hx hb hown (htt _ lk_Model_144) d_Model_asNumber_94 ?_
      refine W.lcmp hx hb d_Model_asNumber_97 ?_
      refine lv_if_le (tgt := 103) hx hb d_Model_asNumber_98 (by decide) (fun c_2 => ?_) (fun c_2 => ?_)
      · replace hm := if_t c_2 hm
        refine lv_aload_n hx hb d_Model_asNumber_103 rfl (lv_at hl 0 rfl) ?_
        refine lv_iload hx hb d_Model_asNumber_104 (lv_at hl 4 rfl) ?_
        refine lv_iconst (v := 1) hx hb d_Model_asNumber_106 (by decide) ?_
        refine lv_icmp_ne (tgt := 116) hx hb d_Model_asNumber_107 (by decide) (fun c_3 => ?_) (fun c_3 => ?_)
        · replace hm := if_f c_3 hm
          refine lv_lload hx hb d_Model_asNumber_116 (lv_at hl 5 rfl) ?_
          refine lv_l2i hx hb d_Model_asNumber_118 rfl ?_
          refine va_put (D := (dC, dI)) (ci := 12) (v := .int v5.toInt32) (ty := .int) (C := R_Model) (T := F_Model) (N := 127) hx hb htt iw_Model t_Model t_Model_ok n_Model hown hK hP hD hS 0 yo_12 rfl 28 (Nat.le_of_ble_eq_true rfl) (htt _ lk_Model_146) (fun _ h9 => h9) rfl (by decide +kernel) rfl rfl yl_28 d_Model_asNumber_119 (fun H locs hP hD hS => ?_)
          obtain ⟨i_4, ei_4⟩ : ∃ y9 : Nat → Int32, y9 = upd i 28 v5.toInt32 := ⟨_, rfl⟩
          replace hm := ob1_at ei_4 hm
          obtain ⟨hP, hD⟩ := yw_28 ei_4 hP hD
          refine lv_iconst (v := 1) hx hb d_Model_asNumber_122 (by decide) ?_
          obtain ⟨e1i, e1j, e1a, e1b, e3⟩ := re4m hm
          obtain ⟨hP, hD⟩ := y_eq e1i e1j e1a e1b hP hD
          exact W.iret hx hb hr (fun t9 ht hW => ⟨⟨_, (), rfl, e3.symm, by rw [ht]; exact hP, hD⟩, hS.F ht⟩) hS.2.2 d_Model_asNumber_123
        · replace hm := if_t c_3 hm
          refine lv_lload hx hb d_Model_asNumber_110 (lv_at hl 5 rfl) ?_
          refine lv_lneg hx hb d_Model_asNumber_112 ?_
          refine lv_goto (tgt := 118) hx hb d_Model_asNumber_113 (by decide) ?_
          refine lv_l2i hx hb d_Model_asNumber_118 rfl ?_
          refine lv_topi (fun x_5 ex_5 => ?_)
          replace hm := ob1_at ex_5 hm
          refine va_put (D := (dC, dI)) (ci := 12) (v := .int x_5) (ty := .int) (C := R_Model) (T := F_Model) (N := 127) hx hb htt iw_Model t_Model t_Model_ok n_Model hown hK hP hD hS 0 yo_12 rfl 28 (Nat.le_of_ble_eq_true rfl) (htt _ lk_Model_146) (fun _ h9 => h9) rfl (by decide +kernel) rfl rfl yl_28 d_Model_asNumber_119 (fun H locs hP hD hS => ?_)
          obtain ⟨i_6, ei_6⟩ : ∃ y9 : Nat → Int32, y9 = upd i 28 x_5 := ⟨_, rfl⟩
          replace hm := ob1_at ei_6 hm
          obtain ⟨hP, hD⟩ := yw_28 ei_6 hP hD
          refine lv_iconst (v := 1) hx hb d_Model_asNumber_122 (by decide) ?_
          obtain ⟨e1i, e1j, e1a, e1b, e3⟩ := re4m hm
          obtain ⟨hP, hD⟩ := y_eq e1i e1j e1a e1b hP hD
          exact W.iret hx hb hr (fun t9 ht hW => ⟨⟨_, (), rfl, e3.symm, by rw [ht]; exact hP, hD⟩, hS.F ht⟩) hS.2.2 d_Model_asNumber_123
      · replace hm := if_f c_2 hm
        refine lv_iconst (v := 2) hx hb d_Model_asNumber_101 (by decide) ?_
        obtain ⟨e1i, e1j, e1a, e1b, e3⟩ := re4m hm
        obtain ⟨hP, hD⟩ := y_eq e1i e1j e1a e1b hP hD
        exact W.iret hx hb hr (fun t9 ht hW => ⟨⟨_, (), rfl, e3.symm, by rw [ht]; exact hP, hD⟩, hS.F ht⟩) hS.2.2 d_Model_asNumber_102
    · replace hm := if_f c_1 hm
      refine lv_aload_n hx hb d_Model_asNumber_40 rfl (lv_at hl 1 rfl) ?_
      refine lv_iload_n hx hb d_Model_asNumber_41 rfl (lv_at hl 2 rfl) ?_
      refine lv_iload hx hb d_Model_asNumber_42 (lv_at hl 6 rfl) ?_
      refine lv_iadd hx hb d_Model_asNumber_44 ?_
      obtain ⟨h_7, hm⟩ := ck_some hm
      refine va_bald hx hb hK hP 1 2 ya_1 rfl h_7 d_Model_asNumber_45 ?_
      refine lv_topi (fun x_8 ex_8 => ?_)
      replace hm := ob1_at ex_8 hm
      refine lv_istore (lv' := [(8, .int x_8), (0, .ref h), (1, .ref ((v 1))), (2, .int v2), (3, .int v3), (4, .int v4), (5, .long v5), (7, .int v7)]) hx hb d_Model_asNumber_46 hl (by decide) rfl (fun ls hl => ?_)
      refine lv_iload hx hb d_Model_asNumber_48 (lv_at hl 0 rfl) ?_
      refine lv_bipush (v := 48) hx hb d_Model_asNumber_50 (by decide) ?_
      refine lv_icmp_lt (tgt := 62) hx hb d_Model_asNumber_52 (by decide) (fun c_9 => ?_) (fun c_9 => ?_)
      · replace hm := if_t c_9 hm
        refine lv_iconst (v := 0) hx hb d_Model_asNumber_62 (by decide) ?_
        obtain ⟨e1i, e1j, e1a, e1b, e3⟩ := re4m hm
        obtain ⟨hP, hD⟩ := y_eq e1i e1j e1a e1b hP hD
        exact W.iret hx hb hr (fun t9 ht hW => ⟨⟨_, (), rfl, e3.symm, by rw [ht]; exact hP, hD⟩, hS.F ht⟩) hS.2.2 d_Model_asNumber_63
      · replace hm := if_f c_9 hm
        refine lv_iload hx hb d_Model_asNumber_55 (lv_at hl 0 rfl) ?_
        refine lv_bipush (v := 57) hx hb d_Model_asNumber_57 (by decide) ?_
        refine lv_icmp_le (tgt := 64) hx hb d_Model_asNumber_59 (by decide) (fun c_10 => ?_) (fun c_10 => ?_)
        · replace hm := if_t c_10 hm
          refine lv_lload hx hb d_Model_asNumber_64 (lv_at hl 6 rfl) ?_
          refine lv_ldc2 (v := 10) hx hb hown (htt _ lk_Model_134) d_Model_asNumber_66 ?_
          refine lv_lmul hx hb d_Model_asNumber_69 ?_
          refine lv_iload hx hb d_Model_asNumber_70 (lv_at hl 0 rfl) ?_
          refine lv_i2l hx hb d_Model_asNumber_72 rfl ?_
          refine lv_ladd hx hb d_Model_asNumber_73 ?_
          refine lv_ldc2 (v := 48) hx hb hown (htt _ lk_Model_136) d_Model_asNumber_74 ?_
          refine lv_lsub hx hb d_Model_asNumber_77 ?_
          refine lv_ldc2 (v := 10000000000) hx hb hown (htt _ lk_Model_138) d_Model_asNumber_78 ?_
          obtain ⟨r_12, h_11, hm⟩ := ob0_some hm
          have hFc := x_free0 hS hA
          refine va_calll (va_runS (As := [.long (((v5 * 10) + x_8.toInt64) - 48), .long 10000000000]) (rest := []) ⟨hx, hb, hml, hown, hts⟩ (x_Math_min2 l H.size n h_11) (va_cwS 2 hts (tw_GS tw_cons cw_Math_min2 lk_Model_140 st_Math_min2 ini_Math) rfl rfl rfl hd_Math_min2 ⟨Nat.le_of_ble_eq_true rfl, Nat.le_of_ble_eq_true rfl⟩) xpS0 rfl rfl hl.1 rfl (lv_room (Nat.le_of_ble_eq_true rfl)) d_Model_asNumber_81 ⟨Nat.le_of_ble_eq_true rfl, Nat.le_of_ble_eq_true rfl⟩) hS (fun q _ h => hFc q h) hFc (fun r9 u9 t9 H locs ht hvm e9 hB hz1 hk1 hS => ?_)
          have e9 : r_12 = r9 := e9
          subst e9
          replace hP := x_keep hP hk1
          clear hFc hk1 hz1 hvm hB ht
          refine lv_lstore (lv' := [(5, .long r_12), (8, .int x_8), (0, .ref h), (1, .ref ((v 1))), (2, .int v2), (3, .int v3), (4, .int v4), (7, .int v7)]) hx hb d_Model_asNumber_84 hl (by decide) rfl (fun ls hl => ?_)
          obtain ⟨x_13, ex_13⟩ : ∃ y9 : Int32, y9 = v7 + 1 := ⟨_, rfl⟩
          replace hm := ob1_at ex_13 hm
          refine lv_iinc (v := x_13) (lv' := [(7, .int x_13), (5, .long r_12), (8, .int x_8), (0, .ref h), (1, .ref ((v 1))), (2, .int v2), (3, .int v3), (4, .int v4)]) hx hb d_Model_asNumber_86 hl (k := 7) rfl (by rw [ex_13]; rfl) (by decide) rfl (fun ls hl => ?_)
          refine lv_goto (tgt := 34) hx hb d_Model_asNumber_89 (by decide) ?_
          exact ih _ _ _ _ _ _ _ _ _ hm _ _ _ hP hD hS (lv_sub hl [3, 4, 5, 6, 7, 1, 0] rfl)
        · replace hm := if_f c_10 hm
          refine lv_iconst (v := 0) hx hb d_Model_asNumber_62 (by decide) ?_
          obtain ⟨e1i, e1j, e1a, e1b, e3⟩ := re4m hm
          obtain ⟨hP, hD⟩ := y_eq e1i e1j e1a e1b hP hD
          exact W.iret hx hb hr (fun t9 ht hW => ⟨⟨_, (), rfl, e3.symm, by rw [ht]; exact hP, hD⟩, hS.F ht⟩) hS.2.2 d_Model_asNumber_63
def m_Model_asNumber_v1_b17 (n : Nat) (i : Nat → Int32) (j : Nat → Int64) (a : Nat → Nat → Int32) (b : Nat → Nat → Int64) (v2 : Int32) (v3 : Int32) (s0 : Int32) : Option ((Nat → Int32) × (Nat → Int64) × (Nat → Nat → Int32) × (Nat → Nat → Int64) × Int32) := if s0 = v3 then some (i, j, a, b, 0) else m_Model_asNumber_v1_b34 n n i j a b v2 v3 s0 (0 : Int64) s0
set_option maxHeartbeats 4000000 in
set_option maxRecDepth 100000 in
theorem lb_Model_asNumber_v1_17 (l : Launch) (dC : Nat → ClassId) (dI : Nat → Nat → Nat) (cI cJ cB : ClassId) (adK adV adA : Nat → Nat) (h : Nat) (v : Nat → Nat) (n : Nat) {p : Program} {e : Env} {s : State} {m : MethodId} {args : Array Value} {below : List Frame} {meth : Method} {c : Code} {A : Nat → Prop} (hx : p.tables.exec = Jvm.exec) (hb : c.code = b_Model_asNumber) (hml : c.maxLocals = 9) (hown : s.vm.findClass R_Model = some m.cls) (hts : ∀ w ∈ w_Model_asNumber, w.before args s = true) (hK : va_K (dC, dI) classes [(cI, .int), (cJ, .long), (cB, .byte)] s) (hE : tw_E adK adV adA A s s.heap) (hA : ∀ q : Nat, s.heap.size ≤ q → A q) (hr : meth.sig.returnType = (some .int)) (hlocks : meth.locks = false) {i2 : Nat → Int32} {j2 : Nat → Int64} {a2 : Nat → Nat → Int32} {b2 : Nat → Nat → Int64} {r2 : Int32} (i : Nat → Int32) (j : Nat → Int64) (a : Nat → Nat → Int32) (b : Nat → Nat → Int64) (v2 : Int32) (v3 : Int32) (s0 : Int32) (hm : m_Model_asNumber_v1_b17 n i j a b v2 v3 s0 = some (i2, j2, a2, b2, r2)) : ∀ (H : Heap) (locs : List Loc) (ls : Array Slot), va_P (dC, dI) classes (MW cI cJ cB h v i j a b) H → va_D A (MW cI cJ cB h v i j a b) → va_S A s.heap H locs → lv_has ls 9 [(0, .ref h), (1, .ref ((v 1))), (2, .int v2), (3, .int v3)] → W p l e ({ frames := 1, cells := 0, slots := 0, locals := 23 } : Room) s m args below meth c H locs 0 0 (MQ below (va_Qi (xR r2) (yB dC dI cI cJ cB h v i2 j2 a2 b2 A) A) args s 0 0 A) (F0 m 17 ls [.int s0]) := by
  have htt : ∀ w ∈ tw_T, w.before _ s = true := fun w h => hts w (List.mem_cons_of_mem _ h)
  intro H locs ls hP hD hS hl
  rw [m_Model_asNumber_v1_b17] at hm
  refine lv_istore (lv' := [(4, .int s0), (0, .ref h), (1, .ref ((v 1))), (2, .int v2), (3, .int v3)]) hx hb d_Model_asNumber_17 hl (by decide) rfl (fun ls hl => ?_)
  refine lv_iload hx hb d_Model_asNumber_19 (lv_at hl 0 rfl) ?_
  refine lv_iload_n hx hb d_Model_asNumber_21 rfl (lv_at hl 4 rfl) ?_
  refine lv_icmp_ne (tgt := 27) hx hb d_Model_asNumber_22 (by decide) (fun c_1 => ?_) (fun c_1 => ?_)
  · replace hm := if_f c_1 hm
    refine lv_lconst (v := 0) hx hb d_Model_asNumber_27 (by decide) ?_
    refine lv_lstore (lv' := [(5, .long 0), (4, .int s0), (0, .ref h), (1, .ref ((v 1))), (2, .int v2), (3, .int v3)]) hx hb d_Model_asNumber_28 hl (by decide) rfl (fun ls hl => ?_)
    refine lv_iload hx hb d_Model_asNumber_30 (lv_at hl 1 rfl) ?_
    refine lv_istore (lv' := [(7, .int s0), (5, .long 0), (4, .int s0), (0, .ref h), (1, .ref ((v 1))), (2, .int v2), (3, .int v3)]) hx hb d_Model_asNumber_32 hl (by decide) rfl (fun ls hl => ?_)
    exact lb_Model_asNumber_v1_34 l dC dI cI cJ cB adK adV adA h v n hx hb hml hown hts hK hE hA hr hlocks n _ _ _ _ _ _ _ _ _ hm _ _ _ hP hD hS (lv_sub hl [3, 4, 5, 6, 2, 1, 0] rfl)
  · replace hm := if_t c_1 hm
    refine lv_iconst (v := 0) hx hb d_Model_asNumber_25 (by decide) ?_
    obtain ⟨e1i, e1j, e1a, e1b, e3⟩ := re4m hm
    obtain ⟨hP, hD⟩ := y_eq e1i e1j e1a e1b hP hD
    exact W.iret hx hb hr (fun t9 ht hW => ⟨⟨_, (), rfl, e3.symm, by rw [ht]; exact hP, hD⟩, hS.F ht⟩) hS.2.2 d_Model_asNumber_26
def m_Model_asNumber_v1_b16 (n : Nat) (i : Nat → Int32) (j : Nat → Int64) (a : Nat → Nat → Int32) (b : Nat → Nat → Int64) (v2 : Int32) (v3 : Int32) : Option ((Nat → Int32) × (Nat → Int64) × (Nat → Nat → Int32) × (Nat → Nat → Int64) × Int32) := m_Model_asNumber_v1_b17 n i j a b v2 v3 (0 : Int32)
set_option maxHeartbeats 4000000 in
set_option maxRecDepth 100000 in
theorem lb_Model_asNumber_v1_16 (l : Launch) (dC : Nat → ClassId) (dI : Nat → Nat → Nat) (cI cJ cB : ClassId) (adK adV adA : Nat → Nat) (h : Nat) (v : Nat → Nat) (n : Nat) {p : Program} {e : Env} {s : State} {m : MethodId} {args : Array Value} {below : List Frame} {meth : Method} {c : Code} {A : Nat → Prop} (hx : p.tables.exec = Jvm.exec) (hb : c.code = b_Model_asNumber) (hml : c.maxLocals = 9) (hown : s.vm.findClass R_Model = some m.cls) (hts : ∀ w ∈ w_Model_asNumber, w.before args s = true) (hK : va_K (dC, dI) classes [(cI, .int), (cJ, .long), (cB, .byte)] s) (hE : tw_E adK adV adA A s s.heap) (hA : ∀ q : Nat, s.heap.size ≤ q → A q) (hr : meth.sig.returnType = (some .int)) (hlocks : meth.locks = false) {i2 : Nat → Int32} {j2 : Nat → Int64} {a2 : Nat → Nat → Int32} {b2 : Nat → Nat → Int64} {r2 : Int32} (i : Nat → Int32) (j : Nat → Int64) (a : Nat → Nat → Int32) (b : Nat → Nat → Int64) (v2 : Int32) (v3 : Int32) (hm : m_Model_asNumber_v1_b16 n i j a b v2 v3 = some (i2, j2, a2, b2, r2)) : ∀ (H : Heap) (locs : List Loc) (ls : Array Slot), va_P (dC, dI) classes (MW cI cJ cB h v i j a b) H → va_D A (MW cI cJ cB h v i j a b) → va_S A s.heap H locs → lv_has ls 9 [(0, .ref h), (1, .ref ((v 1))), (2, .int v2), (3, .int v3)] → W p l e ({ frames := 1, cells := 0, slots := 0, locals := 23 } : Room) s m args below meth c H locs 0 0 (MQ below (va_Qi (xR r2) (yB dC dI cI cJ cB h v i2 j2 a2 b2 A) A) args s 0 0 A) (F0 m 16 ls []) := by
  have htt : ∀ w ∈ tw_T, w.before _ s = true := fun w h => hts w (List.mem_cons_of_mem _ h)
  intro H locs ls hP hD hS hl
  rw [m_Model_asNumber_v1_b16] at hm
  refine lv_iconst (v := 0) hx hb d_Model_asNumber_16 (by decide) ?_
  exact lb_Model_asNumber_v1_17 l dC dI cI cJ cB adK adV adA h v n hx hb hml hown hts hK hE hA hr hlocks _ _ _ _ _ _ _ hm _ _ _ hP hD hS (lv_sub hl [0, 1, 2, 3] rfl)
def m_Model_asNumber_v1 (n : Nat) (i : Nat → Int32) (j : Nat → Int64) (a : Nat → Nat → Int32) (b : Nat → Nat → Int64) (v2 : Int32) (v3 : Int32) : Option ((Nat → Int32) × (Nat → Int64) × (Nat → Nat → Int32) × (Nat → Nat → Int64) × Int32) := if v3 ≤ ((0 : Int32)) then m_Model_asNumber_v1_b16 n i j a b v2 v3 else ck v2 300000 (if ((a 1 v2.toNatClampNeg)) = ((45 : Int32)) then m_Model_asNumber_v1_b17 n i j a b v2 v3 (1 : Int32) else m_Model_asNumber_v1_b16 n i j a b v2 v3)
set_option maxHeartbeats 4000000 in
set_option maxRecDepth 100000 in
theorem x_Model_asNumber_v1 (l : Launch) (dC : Nat → ClassId) (dI : Nat → Nat → Nat) (cI cJ cB : ClassId) (adK adV adA : Nat → Nat) (h : Nat) (v : Nat → Nat) (sz : Nat) (n : Nat) {i : Nat → Int32} {j : Nat → Int64} {a : Nat → Nat → Int32} {b : Nat → Nat → Int64} {v2 : Int32} {v3 : Int32} {i2 : Nat → Int32} {j2 : Nat → Int64} {a2 : Nat → Nat → Int32} {b2 : Nat → Nat → Int64} {r2 : Int32} (hm : m_Model_asNumber_v1 n i j a b v2 v3 = some (i2, j2, a2, b2, r2)) : Met l y_Model_asNumber w_Model_asNumber ({ frames := 1, cells := 0, slots := 0, locals := 23 } : Room) (va_Pc [.ref h, .ref ((v 1)), .int v2, .int v3] (yE dC dI cI cJ cB adK adV adA h v i j a b sz)) (va_Qi (xR r2) (yB dC dI cI cJ cB h v i2 j2 a2 b2 (va_A (MW cI cJ cB h v i j a b) sz)) (va_A (MW cI cJ cB h v i j a b) sz)) 0 0 ((va_A (MW cI cJ cB h v i j a b) sz)) := by
  refine Met.ofW (cc := b_Model_asNumber) (maxL := 9) (ret := (some .int)) (by decide) rfl ?_
  intro p e s m args below meth c s₁ B hml hv
  obtain ⟨rfl, hsz, hP, hK, hE, hD0⟩ := hv
  have hx := B.exec
  have hb := B.bytes
  have hr := B.returns
  have hts := atoms_spec (ws := w_Model_asNumber) B.pre
  have htt : ∀ w ∈ tw_T, w.before _ s = true := fun w h => hts w (List.mem_cons_of_mem _ h)
  have hown : s.vm.findClass R_Model = some m.cls := findClass_of_methodNamed B.named
  have hlocks := B.notSynchronized
  subst hsz
  have hD := hD0.self (sz := s.heap.size)
  generalize hAe : (va_A (MW cI cJ cB h v i j a b) s.heap.size) = A at hD hE ⊢
  have hA : ∀ q : Nat, s.heap.size ≤ q → A q := fun q h => by rw [← hAe]; exact Or.inr h
  have hS : va_S A s.heap s.heap [] := va_S.rf
  have hl := lv_entry ([.ref h, .ref ((v 1)), .int v2, .int v3]) (n := 9) (Nat.le_of_ble_eq_true rfl)
  rw [lg_entry_eq]
  generalize (lg_sl ([.ref h, .ref ((v 1)), .int v2, .int v3]) ++ List.replicate (9 - (lg_sl ([.ref h, .ref ((v 1)), .int v2, .int v3])).length) Slot.unset).toArray = ls at hl ⊢
  have hl : lv_has ls 9 [(0, .ref h), (1, .ref ((v 1))), (2, .int v2), (3, .int v3)] := hl
  rw [m_Model_asNumber_v1] at hm
  refine lv_iload_n hx hb d_Model_asNumber_0 rfl (lv_at hl 3 rfl) ?_
  refine lv_if_le (tgt := 16) hx hb d_Model_asNumber_1 (by decide) (fun c_1 => ?_) (fun c_1 => ?_)
  · replace hm := if_t c_1 hm
    exact lb_Model_asNumber_v1_16 l dC dI cI cJ cB adK adV adA h v n hx hb hml hown hts hK hE hA hr hlocks _ _ _ _ _ _ hm _ _ _ hP hD hS (lv_sub hl [0, 1, 2, 3] rfl)
  · replace hm := if_f c_1 hm
    refine lv_aload_n hx hb d_Model_asNumber_4 rfl (lv_at hl 1 rfl) ?_
    refine lv_iload_n hx hb d_Model_asNumber_5 rfl (lv_at hl 2 rfl) ?_
    obtain ⟨h_2, hm⟩ := ck_some hm
    refine va_bald hx hb hK hP 1 2 ya_1 rfl h_2 d_Model_asNumber_6 ?_
    refine lv_bipush (v := 45) hx hb d_Model_asNumber_7 (by decide) ?_
    refine lv_icmp_ne (tgt := 16) hx hb d_Model_asNumber_9 (by decide) (fun c_3 => ?_) (fun c_3 => ?_)
    · replace hm := if_f c_3 hm
      exact lb_Model_asNumber_v1_16 l dC dI cI cJ cB adK adV adA h v n hx hb hml hown hts hK hE hA hr hlocks _ _ _ _ _ _ hm _ _ _ hP hD hS (lv_sub hl [0, 1, 2, 3] rfl)
    · replace hm := if_t c_3 hm
      refine lv_iconst (v := 1) hx hb d_Model_asNumber_12 (by decide) ?_
      refine lv_goto (tgt := 17) hx hb d_Model_asNumber_13 (by decide) ?_
      exact lb_Model_asNumber_v1_17 l dC dI cI cJ cB adK adV adA h v n hx hb hml hown hts hK hE hA hr hlocks _ _ _ _ _ _ _ hm _ _ _ hP hD hS (lv_sub hl [0, 1, 2, 3] rfl)

def m_Model_quoted_b110 (n : Nat) (i : Nat → Int32) (j : Nat → Int64) (a : Nat → Nat → Int32) (b : Nat → Nat → Int64) (v1 : Int32) : Option ((Nat → Int32) × (Nat → Int64) × (Nat → Nat → Int32) × (Nat → Nat → Int64) × Int64) := ck v1 120000 (some (i, j, a, b, b 9 v1.toNatClampNeg))
set_option maxHeartbeats 4000000 in
set_option maxRecDepth 100000 in
theorem lb_Model_quoted_110 (l : Launch) (dC : Nat → ClassId) (dI : Nat → Nat → Nat) (cI cJ cB : ClassId) (adK adV adA : Nat → Nat) (h : Nat) (v : Nat → Nat) (n : Nat) {p : Program} {e : Env} {s : State} {m : MethodId} {args : Array Value} {below : List Frame} {meth : Method} {c : Code} {A : Nat → Prop} (hx : p.tables.exec = Jvm.exec) (hb : c.code = b_Model_quoted) (hml : c.maxLocals = 3) (hown : s.vm.findClass R_Model = some m.cls) (hts : ∀ w ∈ w_Model_quoted, w.before args s = true) (hK : va_K (dC, dI) classes [(cI, .int), (cJ, .long), (cB, .byte)] s) (hE : tw_E adK adV adA A s s.heap) (hA : ∀ q : Nat, s.heap.size ≤ q → A q) (hr : meth.sig.returnType = (some .long)) (hlocks : meth.locks = false) {i2 : Nat → Int32} {j2 : Nat → Int64} {a2 : Nat → Nat → Int32} {b2 : Nat → Nat → Int64} {r2 : Int64} (i : Nat → Int32) (j : Nat → Int64) (a : Nat → Nat → Int32) (b : Nat → Nat → Int64) (v1 : Int32) (hm : m_Model_quoted_b110 n i j a b v1 = some (i2, j2, a2, b2, r2)) : ∀ (H : Heap) (locs : List Loc) (ls : Array Slot), va_P (dC, dI) classes (MW cI cJ cB h v i j a b) H → va_D A (MW cI cJ cB h v i j a b) → va_S A s.heap H locs → lv_has ls 3 [(0, .ref h), (1, .int v1)] → W p l e ({ frames := 2, cells := 0, slots := 0, locals := 51 } : Room) s m args below meth c H locs 0 0 (MQ below (va_Ql (xR r2) (yB dC dI cI cJ cB h v i2 j2 a2 b2 A) A) args s 0 0 A) (F0 m 110 ls []) := by
  have htt : ∀ w ∈ tw_T, w.before _ s = true := fun w h => hts w (List.mem_cons_of_mem _ h)
  intro H locs ls hP hD hS hl
  rw [m_Model_quoted_b110] at hm
  refine lv_aload_n hx hb d_Model_quoted_110 rfl (lv_at hl 0 rfl) ?_
  refine va_get (D := (dC, dI)) (ci := 12) (v := .ref ((v 9))) (C := R_Model) (T := F_Model) (N := 127) hx hb htt iw_Model hown hK hP 0 yo_12 rfl 9 (Nat.le_of_ble_eq_true rfl) (htt _ lk_Model_28) (fun _ h9 => h9) yg_9 d_Model_quoted_111 ?_
  refine lv_iload_n hx hb d_Model_quoted_114 rfl (lv_at hl 1 rfl) ?_
  obtain ⟨h_1, hm⟩ := ck_some hm
  refine va_lald hx hb hK hP 9 1 ya_9 rfl h_1 d_Model_quoted_115 ?_
  obtain ⟨e1i, e1j, e1a, e1b, e3⟩ := re4m hm
  obtain ⟨hP, hD⟩ := y_eq e1i e1j e1a e1b hP hD
  exact W.lret hx hb hr (fun t9 ht hW => ⟨⟨_, (), rfl, e3.symm, by rw [ht]; exact hP, hD⟩, hS.F ht⟩) hS.2.2 d_Model_quoted_116
def m_Model_quoted_b109 (n : Nat) (i : Nat → Int32) (j : Nat → Int64) (a : Nat → Nat → Int32) (b : Nat → Nat → Int64) (v1 : Int32) (s0 : Int64) (s1 : Int32) : Option ((Nat → Int32) × (Nat → Int64) × (Nat → Nat → Int32) × (Nat → Nat → Int64) × Int64) := ck s1 120000 (ob1 (svl b 9 s1.toNatClampNeg s0 : Nat → Nat → Int64) (fun b_2 => m_Model_quoted_b110 n i j a b_2 v1))
set_option maxHeartbeats 4000000 in
set_option maxRecDepth 100000 in
theorem lb_Model_quoted_109 (l : Launch) (dC : Nat → ClassId) (dI : Nat → Nat → Nat) (cI cJ cB : ClassId) (adK adV adA : Nat → Nat) (h : Nat) (v : Nat → Nat) (n : Nat) {p : Program} {e : Env} {s : State} {m : MethodId} {args : Array Value} {below : List Frame} {meth : Method} {c : Code} {A : Nat → Prop} (hx : p.tables.exec = Jvm.exec) (hb : c.code = b_Model_quoted) (hml : c.maxLocals = 3) (hown : s.vm.findClass R_Model = some m.cls) (hts : ∀ w ∈ w_Model_quoted, w.before args s = true) (hK : va_K (dC, dI) classes [(cI, .int), (cJ, .long), (cB, .byte)] s) (hE : tw_E adK adV adA A s s.heap) (hA : ∀ q : Nat, s.heap.size ≤ q → A q) (hr : meth.sig.returnType = (some .long)) (hlocks : meth.locks = false) {i2 : Nat → Int32} {j2 : Nat → Int64} {a2 : Nat → Nat → Int32} {b2 : Nat → Nat → Int64} {r2 : Int64} (i : Nat → Int32) (j : Nat → Int64) (a : Nat → Nat → Int32) (b : Nat → Nat → Int64) (v1 : Int32) (s0 : Int64) (s1 : Int32) (hm : m_Model_quoted_b109 n i j a b v1 s0 s1 = some (i2, j2, a2, b2, r2)) : ∀ (H : Heap) (locs : List Loc) (ls : Array Slot), va_P (dC, dI) classes (MW cI cJ cB h v i j a b) H → va_D A (MW cI cJ cB h v i j a b) → va_S A s.heap H locs → lv_has ls 3 [(0, .ref h), (1, .int v1)] → W p l e ({ frames := 2, cells := 0, slots := 0, locals := 51 } : Room) s m args below meth c H locs 0 0 (MQ below (va_Ql (xR r2) (yB dC dI cI cJ cB h v i2 j2 a2 b2 A) A) args s 0 0 A) (F0 m 109 ls [.long s0, .int s1, .ref ((v 9))]) := by
  have htt : ∀ w ∈ tw_T, w.before _ s = true := fun w h => hts w (List.mem_cons_of_mem _ h)
  intro H locs ls hP hD hS hl
  rw [m_Model_quoted_b109] at hm
  obtain ⟨h_1, hm⟩ := ck_some hm
  refine va_last hx hb hK hP hD hS 9 1 ya_9 rfl h_1 d_Model_quoted_109 (fun H locs hP hD hS => ?_)
  obtain ⟨b_2, eb_2⟩ : ∃ y9 : Nat → Nat → Int64, y9 = svl b 9 s1.toNatClampNeg s0 := ⟨_, rfl⟩
  replace hm := ob1_at eb_2 hm
  obtain ⟨hP, hD⟩ := yv_9 eb_2 hP hD
  exact lb_Model_quoted_110 l dC dI cI cJ cB adK adV adA h v n hx hb hml hown hts hK hE hA hr hlocks _ _ _ _ _ hm _ _ _ hP hD hS (lv_sub hl [0, 1] rfl)
def m_Model_quoted (n : Nat) (i : Nat → Int32) (j : Nat → Int64) (a : Nat → Nat → Int32) (b : Nat → Nat → Int64) (v1 : Int32) : Option ((Nat → Int32) × (Nat → Int64) × (Nat → Nat → Int32) × (Nat → Nat → Int64) × Int64) := ck v1 120000 (if ((a 4 v1.toNatClampNeg)) = ((1 : Int32)) then om (m_Model_fails n i j a b (3 : Int32)) (fun i_34 j_35 a_36 b_37 r_38 => some (i_34, j_35, a_36, b_37, r_38)) else ck v1 120000 (if ((lg_cmp (b 9 v1.toNatClampNeg) 3)) = ((0 : Int32)) then ck v1 120000 (ck v1 120000 (om (m_Model_asNumber_v1 n i j a b ((a 3 v1.toNatClampNeg) + 1) ((a 4 v1.toNatClampNeg) - 1)) (fun i_8 j_9 a_10 b_11 r_12 => if r_12 = ((2 : Int32)) then om (m_Model_fails n i_8 j_9 a_10 b_11 (9 : Int32)) (fun i_28 j_29 a_30 b_31 r_32 => some (i_28, j_29, a_30, b_31, r_32)) else if r_12 = ((1 : Int32)) then ob0 (m_Model_number n (i_8 28)) (fun r_26 => m_Model_quoted_b109 n i_8 j_9 a_10 b_11 v1 r_26 v1) else ck v1 120000 (ck v1 120000 (om (m_Model_newWord n i_8 j_9 a_10 b_11 ((a_10 3 v1.toNatClampNeg) + 1) ((a_10 4 v1.toNatClampNeg) - 1)) (fun i_18 j_19 a_20 b_21 r_22 => ob0 (m_Model_wordValue n r_22) (fun r_24 => m_Model_quoted_b109 n i_18 j_19 a_20 b_21 v1 r_24 v1))))))) else m_Model_quoted_b110 n i j a b v1))
set_option maxHeartbeats 4000000 in
set_option maxRecDepth 100000 in
theorem x_Model_quoted (l : Launch) (dC : Nat → ClassId) (dI : Nat → Nat → Nat) (cI cJ cB : ClassId) (adK adV adA : Nat → Nat) (h : Nat) (v : Nat → Nat) (sz : Nat) (n : Nat) {i : Nat → Int32} {j : Nat → Int64} {a : Nat → Nat → Int32} {b : Nat → Nat → Int64} {v1 : Int32} {i2 : Nat → Int32} {j2 : Nat → Int64} {a2 : Nat → Nat → Int32} {b2 : Nat → Nat → Int64} {r2 : Int64} (hm : m_Model_quoted n i j a b v1 = some (i2, j2, a2, b2, r2)) : Met l y_Model_quoted w_Model_quoted ({ frames := 2, cells := 0, slots := 0, locals := 51 } : Room) (va_Pc [.ref h, .int v1] (yE dC dI cI cJ cB adK adV adA h v i j a b sz)) (va_Ql (xR r2) (yB dC dI cI cJ cB h v i2 j2 a2 b2 (va_A (MW cI cJ cB h v i j a b) sz)) (va_A (MW cI cJ cB h v i j a b) sz)) 0 0 ((va_A (MW cI cJ cB h v i j a b) sz)) := by
  refine Met.ofW (cc := b_Model_quoted) (maxL := 3) (ret := (some .long)) (by decide) rfl ?_
  intro p e s m args below meth c s₁ B hml hv
  obtain ⟨rfl, hsz, hP, hK, hE, hD0⟩ := hv
  have hx := B.exec
  have hb := B.bytes
  have hr := B.returns
  have hts := atoms_spec (ws := w_Model_quoted) B.pre
  have htt : ∀ w ∈ tw_T, w.before _ s = true := fun w h => hts w (List.mem_cons_of_mem _ h)
  have hown : s.vm.findClass R_Model = some m.cls := findClass_of_methodNamed B.named
  have hlocks := B.notSynchronized
  subst hsz
  have hD := hD0.self (sz := s.heap.size)
  generalize hAe : (va_A (MW cI cJ cB h v i j a b) s.heap.size) = A at hD hE ⊢
  have hA : ∀ q : Nat, s.heap.size ≤ q → A q := fun q h => by rw [← hAe]; exact Or.inr h
  have hS : va_S A s.heap s.heap [] := va_S.rf
  have hl := lv_entry ([.ref h, .int v1]) (n := 3) (Nat.le_of_ble_eq_true rfl)
  rw [lg_entry_eq]
  generalize (lg_sl ([.ref h, .int v1]) ++ List.replicate (3 - (lg_sl ([.ref h, .int v1])).length) Slot.unset).toArray = ls at hl ⊢
  have hl : lv_has ls 3 [(0, .ref h), (1, .int v1)] := hl
  rw [m_Model_quoted] at hm
  refine lv_aload_n hx hb d_Model_quoted_0 rfl (lv_at hl 0 rfl) ?_
  refine va_get (D := (dC, dI)) (ci := 12) (v := .ref ((v 4))) (C := R_Model) (T := F_Model) (N := 127) hx hb htt iw_Model hown hK hP 0 yo_12 rfl 4 (Nat.le_of_ble_eq_true rfl) (htt _ lk_Model_22) (fun _ h9 => h9) yg_4 d_Model_quoted_1 ?_
  refine lv_iload_n hx hb d_Model_quoted_4 rfl (lv_at hl 1 rfl) ?_
  obtain ⟨h_1, hm⟩ := ck_some hm
  refine va_iald hx hb hK hP 4 0 ya_4 rfl h_1 d_Model_quoted_5 ?_
  refine lv_iconst (v := 1) hx hb d_Model_quoted_6 (by decide) ?_
  refine lv_icmp_ne (tgt := 16) hx hb d_Model_quoted_7 (by decide) (fun c_2 => ?_) (fun c_2 => ?_)
  · replace hm := if_f c_2 hm
    refine lv_aload_n hx hb d_Model_quoted_16 rfl (lv_at hl 0 rfl) ?_
    refine va_get (D := (dC, dI)) (ci := 12) (v := .ref ((v 9))) (C := R_Model) (T := F_Model) (N := 127) hx hb htt iw_Model hown hK hP 0 yo_12 rfl 9 (Nat.le_of_ble_eq_true rfl) (htt _ lk_Model_28) (fun _ h9 => h9) yg_9 d_Model_quoted_17 ?_
    refine lv_iload_n hx hb d_Model_quoted_20 rfl (lv_at hl 1 rfl) ?_
    obtain ⟨h_3, hm⟩ := ck_some hm
    refine va_lald hx hb hK hP 9 1 ya_9 rfl h_3 d_Model_quoted_21 ?_
    refine lv_ldc2 (v := 3) hx hb hown (htt _ lk_Model_7) d_Model_quoted_22 ?_
    refine W.lcmp hx hb d_Model_quoted_25 ?_
    refine lv_if_ne (tgt := 110) hx hb d_Model_quoted_26 (by decide) (fun c_4 => ?_) (fun c_4 => ?_)
    · replace hm := if_f c_4 hm
      exact lb_Model_quoted_110 l dC dI cI cJ cB adK adV adA h v n hx hb hml hown hts hK hE hA hr hlocks _ _ _ _ _ hm _ _ _ hP hD hS (lv_sub hl [0, 1] rfl)
    · replace hm := if_t c_4 hm
      refine lv_aload_n hx hb d_Model_quoted_29 rfl (lv_at hl 0 rfl) ?_
      refine lv_aload_n hx hb d_Model_quoted_30 rfl (lv_at hl 0 rfl) ?_
      refine va_get (D := (dC, dI)) (ci := 12) (v := .ref ((v 1))) (C := R_Model) (T := F_Model) (N := 127) hx hb htt iw_Model hown hK hP 0 yo_12 rfl 1 (Nat.le_of_ble_eq_true rfl) (htt _ lk_Model_67) (fun _ h9 => h9) yg_1 d_Model_quoted_31 ?_
      refine lv_aload_n hx hb d_Model_quoted_34 rfl (lv_at hl 0 rfl) ?_
      refine va_get (D := (dC, dI)) (ci := 12) (v := .ref ((v 3))) (C := R_Model) (T := F_Model) (N := 127) hx hb htt iw_Model hown hK hP 0 yo_12 rfl 3 (Nat.le_of_ble_eq_true rfl) (htt _ lk_Model_15) (fun _ h9 => h9) yg_3 d_Model_quoted_35 ?_
      refine lv_iload_n hx hb d_Model_quoted_38 rfl (lv_at hl 1 rfl) ?_
      obtain ⟨h_5, hm⟩ := ck_some hm
      refine va_iald hx hb hK hP 3 0 ya_3 rfl h_5 d_Model_quoted_39 ?_
      refine lv_iconst (v := 1) hx hb d_Model_quoted_40 (by decide) ?_
      refine lv_iadd hx hb d_Model_quoted_41 ?_
      refine lv_aload_n hx hb d_Model_quoted_42 rfl (lv_at hl 0 rfl) ?_
      refine va_get (D := (dC, dI)) (ci := 12) (v := .ref ((v 4))) (C := R_Model) (T := F_Model) (N := 127) hx hb htt iw_Model hown hK hP 0 yo_12 rfl 4 (Nat.le_of_ble_eq_true rfl) (htt _ lk_Model_22) (fun _ h9 => h9) yg_4 d_Model_quoted_43 ?_
      refine lv_iload_n hx hb d_Model_quoted_46 rfl (lv_at hl 1 rfl) ?_
      obtain ⟨h_6, hm⟩ := ck_some hm
      refine va_iald hx hb hK hP 4 0 ya_4 rfl h_6 d_Model_quoted_47 ?_
      refine lv_iconst (v := 1) hx hb d_Model_quoted_48 (by decide) ?_
      refine lv_isub hx hb d_Model_quoted_49 ?_
      obtain ⟨i_8, j_9, a_10, b_11, r_12, h_7, hm⟩ := om_some hm
      have hFc := x_free hD hS hA
      refine va_calli (va_runV (As := [.ref ((v 1)), .int ((a 3 v1.toNatClampNeg) + 1), .int ((a 4 v1.toNatClampNeg) - 1)]) (rest := []) ⟨hx, hb, hml, hown, hts⟩ (x_Model_asNumber_v1 l dC dI cI cJ cB adK adV adA h v s.heap.size n h_7) (cwV 3 hts (tw_GV tw_cons cw_Model_asNumber lk_Model_447 in_Model_asNumber sel_Model_asNumber ini_Model) rfl rfl rfl ⟨rfl, hd_Model_asNumber⟩ ⟨Nat.le_of_ble_eq_true rfl, Nat.le_of_ble_eq_true rfl⟩) (ypV hK hP hD hS hE hFc yo_12 rfl) rfl rfl hl.1 rfl (lv_room (Nat.le_of_ble_eq_true rfl)) d_Model_quoted_50 ⟨Nat.le_of_ble_eq_true rfl, Nat.le_of_ble_eq_true rfl⟩) hS (fun q _ h => hFc q h) hFc (fun r9 u9 t9 H locs ht hvm e9 hB hz1 hk1 hS => ?_)
      have e9 : r_12 = r9 := e9
      subst e9
      obtain ⟨hP, hD⟩ := y_aft hB ht hFc
      clear hFc hk1 hz1 hvm hB ht
      refine lv_istore_n (lv' := [(2, .int r_12), (0, .ref h), (1, .int v1)]) hx hb d_Model_quoted_53 rfl hl (by decide) rfl (fun ls hl => ?_)
      refine lv_iload_n hx hb d_Model_quoted_54 rfl (lv_at hl 0 rfl) ?_
      refine lv_iconst (v := 2) hx hb d_Model_quoted_55 (by decide) ?_
      refine lv_icmp_ne (tgt := 66) hx hb d_Model_quoted_56 (by decide) (fun c_13 => ?_) (fun c_13 => ?_)
      · replace hm := if_f c_13 hm
        refine lv_aload_n hx hb d_Model_quoted_66 rfl (lv_at hl 1 rfl) ?_
        refine va_get (D := (dC, dI)) (ci := 12) (v := .ref ((v 9))) (C := R_Model) (T := F_Model) (N := 127) hx hb htt iw_Model hown hK hP 0 yo_12 rfl 9 (Nat.le_of_ble_eq_true rfl) (htt _ lk_Model_28) (fun _ h9 => h9) yg_9 d_Model_quoted_67 ?_
        refine lv_iload_n hx hb d_Model_quoted_70 rfl (lv_at hl 2 rfl) ?_
        refine lv_iload_n hx hb d_Model_quoted_71 rfl (lv_at hl 0 rfl) ?_
        refine lv_iconst (v := 1) hx hb d_Model_quoted_72 (by decide) ?_
        refine lv_icmp_ne (tgt := 86) hx hb d_Model_quoted_73 (by decide) (fun c_14 => ?_) (fun c_14 => ?_)
        · replace hm := if_f c_14 hm
          refine lv_aload_n hx hb d_Model_quoted_86 rfl (lv_at hl 1 rfl) ?_
          refine lv_aload_n hx hb d_Model_quoted_87 rfl (lv_at hl 1 rfl) ?_
          refine va_get (D := (dC, dI)) (ci := 12) (v := .ref ((v 3))) (C := R_Model) (T := F_Model) (N := 127) hx hb htt iw_Model hown hK hP 0 yo_12 rfl 3 (Nat.le_of_ble_eq_true rfl) (htt _ lk_Model_15) (fun _ h9 => h9) yg_3 d_Model_quoted_88 ?_
          refine lv_iload_n hx hb d_Model_quoted_91 rfl (lv_at hl 2 rfl) ?_
          obtain ⟨h_15, hm⟩ := ck_some hm
          refine va_iald hx hb hK hP 3 0 ya_3 rfl h_15 d_Model_quoted_92 ?_
          refine lv_iconst (v := 1) hx hb d_Model_quoted_93 (by decide) ?_
          refine lv_iadd hx hb d_Model_quoted_94 ?_
          refine lv_aload_n hx hb d_Model_quoted_95 rfl (lv_at hl 1 rfl) ?_
          refine va_get (D := (dC, dI)) (ci := 12) (v := .ref ((v 4))) (C := R_Model) (T := F_Model) (N := 127) hx hb htt iw_Model hown hK hP 0 yo_12 rfl 4 (Nat.le_of_ble_eq_true rfl) (htt _ lk_Model_22) (fun _ h9 => h9) yg_4 d_Model_quoted_96 ?_
          refine lv_iload_n hx hb d_Model_quoted_99 rfl (lv_at hl 2 rfl) ?_
          obtain ⟨h_16, hm⟩ := ck_some hm
          refine va_iald hx hb hK hP 4 0 ya_4 rfl h_16 d_Model_quoted_100 ?_
          refine lv_iconst (v := 1) hx hb d_Model_quoted_101 (by decide) ?_
          refine lv_isub hx hb d_Model_quoted_102 ?_
          obtain ⟨i_18, j_19, a_20, b_21, r_22, h_17, hm⟩ := om_some hm
          have hFc := x_free hD hS hA
          refine va_calli (va_runV (As := [.int ((a_10 3 v1.toNatClampNeg) + 1), .int ((a_10 4 v1.toNatClampNeg) - 1)]) (rest := [.int v1, .ref ((v 9))]) ⟨hx, hb, hml, hown, hts⟩ (x_Model_newWord l dC dI cI cJ cB adK adV adA h v H.size n h_17) (cwV 2 hts (tw_GV tw_cons cw_Model_newWord lk_Model_454 in_Model_newWord sel_Model_newWord ini_Model) rfl rfl rfl ⟨rfl, hd_Model_newWord⟩ ⟨Nat.le_of_ble_eq_true rfl, Nat.le_of_ble_eq_true rfl⟩) (ypV hK hP hD hS hE hFc yo_12 rfl) rfl rfl hl.1 rfl (lv_room (Nat.le_of_ble_eq_true rfl)) d_Model_quoted_103 ⟨Nat.le_of_ble_eq_true rfl, Nat.le_of_ble_eq_true rfl⟩) hS (fun q _ h => hFc q h) hFc (fun r9 u9 t9 H locs ht hvm e9 hB hz1 hk1 hS => ?_)
          have e9 : r_22 = r9 := e9
          subst e9
          obtain ⟨hP, hD⟩ := y_aft hB ht hFc
          clear hFc hk1 hz1 hvm hB ht
          obtain ⟨r_24, h_23, hm⟩ := ob0_some hm
          have hFc := x_free0 hS hA
          refine va_calll (va_runS (As := [.int r_22]) (rest := [.int v1, .ref ((v 9))]) ⟨hx, hb, hml, hown, hts⟩ (x_Model_wordValue l H.size n h_23) (va_cwS 1 hts (tw_GS tw_cons cw_Model_wordValue lk_Model_396 st_Model_wordValue ini_Model) rfl rfl rfl hd_Model_wordValue ⟨Nat.le_of_ble_eq_true rfl, Nat.le_of_ble_eq_true rfl⟩) xpS0 rfl rfl hl.1 rfl (lv_room (Nat.le_of_ble_eq_true rfl)) d_Model_quoted_106 ⟨Nat.le_of_ble_eq_true rfl, Nat.le_of_ble_eq_true rfl⟩) hS (fun q _ h => hFc q h) hFc (fun r9 u9 t9 H locs ht hvm e9 hB hz1 hk1 hS => ?_)
          have e9 : r_24 = r9 := e9
          subst e9
          replace hP := x_keep hP hk1
          clear hFc hk1 hz1 hvm hB ht
          exact lb_Model_quoted_109 l dC dI cI cJ cB adK adV adA h v n hx hb hml hown hts hK hE hA hr hlocks _ _ _ _ _ _ _ hm _ _ _ hP hD hS (lv_sub hl [1, 2] rfl)
        · replace hm := if_t c_14 hm
          refine lv_aload_n hx hb d_Model_quoted_76 rfl (lv_at hl 1 rfl) ?_
          refine va_get (D := (dC, dI)) (ci := 12) (v := .int (i_8 28)) (C := R_Model) (T := F_Model) (N := 127) hx hb htt iw_Model hown hK hP 0 yo_12 rfl 28 (Nat.le_of_ble_eq_true rfl) (htt _ lk_Model_146) (fun _ h9 => h9) yg_28 d_Model_quoted_77 ?_
          obtain ⟨r_26, h_25, hm⟩ := ob0_some hm
          have hFc := x_free0 hS hA
          refine va_calll (va_runS (As := [.int (i_8 28)]) (rest := [.int v1, .ref ((v 9))]) ⟨hx, hb, hml, hown, hts⟩ (x_Model_number l H.size n h_25) (va_cwS 1 hts (tw_GS tw_cons cw_Model_number lk_Model_451 st_Model_number ini_Model) rfl rfl rfl hd_Model_number ⟨Nat.le_of_ble_eq_true rfl, Nat.le_of_ble_eq_true rfl⟩) xpS0 rfl rfl hl.1 rfl (lv_room (Nat.le_of_ble_eq_true rfl)) d_Model_quoted_80 ⟨Nat.le_of_ble_eq_true rfl, Nat.le_of_ble_eq_true rfl⟩) hS (fun q _ h => hFc q h) hFc (fun r9 u9 t9 H locs ht hvm e9 hB hz1 hk1 hS => ?_)
          have e9 : r_26 = r9 := e9
          subst e9
          replace hP := x_keep hP hk1
          clear hFc hk1 hz1 hvm hB ht
          refine lv_goto (tgt := 109) hx hb d_Model_quoted_83 (by decide) ?_
          exact lb_Model_quoted_109 l dC dI cI cJ cB adK adV adA h v n hx hb hml hown hts hK hE hA hr hlocks _ _ _ _ _ _ _ hm _ _ _ hP hD hS (lv_sub hl [1, 2] rfl)
      · replace hm := if_t c_13 hm
        refine lv_aload_n hx hb d_Model_quoted_59 rfl (lv_at hl 1 rfl) ?_
        refine lv_bipush (v := 9) hx hb d_Model_quoted_60 (by decide) ?_
        obtain ⟨i_28, j_29, a_30, b_31, r_32, h_27, hm⟩ := om_some hm
        have hFc := x_free hD hS hA
        refine va_calll (va_runV (As := [.int 9]) (rest := []) ⟨hx, hb, hml, hown, hts⟩ (x_Model_fails l dC dI cI cJ cB adK adV adA h v H.size n h_27) (cwV 1 hts (tw_GV tw_cons cw_Model_fails lk_Model_596 in_Model_fails sel_Model_fails ini_Model) rfl rfl rfl ⟨rfl, hd_Model_fails⟩ ⟨Nat.le_of_ble_eq_true rfl, Nat.le_of_ble_eq_true rfl⟩) (ypV hK hP hD hS hE hFc yo_12 rfl) rfl rfl hl.1 rfl (lv_room (Nat.le_of_ble_eq_true rfl)) d_Model_quoted_62 ⟨Nat.le_of_ble_eq_true rfl, Nat.le_of_ble_eq_true rfl⟩) hS (fun q _ h => hFc q h) hFc (fun r9 u9 t9 H locs ht hvm e9 hB hz1 hk1 hS => ?_)
        have e9 : r_32 = r9 := e9
        subst e9
        obtain ⟨hP, hD⟩ := y_aft hB ht hFc
        clear hFc hk1 hz1 hvm hB ht
        obtain ⟨e1i, e1j, e1a, e1b, e3⟩ := re4m hm
        obtain ⟨hP, hD⟩ := y_eq e1i e1j e1a e1b hP hD
        exact W.lret hx hb hr (fun t9 ht hW => ⟨⟨_, (), rfl, e3.symm, by rw [ht]; exact hP, hD⟩, hS.F ht⟩) hS.2.2 d_Model_quoted_65
  · replace hm := if_t c_2 hm
    refine lv_aload_n hx hb d_Model_quoted_10 rfl (lv_at hl 0 rfl) ?_
    refine lv_iconst (v := 3) hx hb d_Model_quoted_11 (by decide) ?_
    obtain ⟨i_34, j_35, a_36, b_37, r_38, h_33, hm⟩ := om_some hm
    have hFc := x_free hD hS hA
    refine va_calll (va_runV (As := [.int 3]) (rest := []) ⟨hx, hb, hml, hown, hts⟩ (x_Model_fails l dC dI cI cJ cB adK adV adA h v s.heap.size n h_33) (cwV 1 hts (tw_GV tw_cons cw_Model_fails lk_Model_596 in_Model_fails sel_Model_fails ini_Model) rfl rfl rfl ⟨rfl, hd_Model_fails⟩ ⟨Nat.le_of_ble_eq_true rfl, Nat.le_of_ble_eq_true rfl⟩) (ypV hK hP hD hS hE hFc yo_12 rfl) rfl rfl hl.1 rfl (lv_room (Nat.le_of_ble_eq_true rfl)) d_Model_quoted_12 ⟨Nat.le_of_ble_eq_true rfl, Nat.le_of_ble_eq_true rfl⟩) hS (fun q _ h => hFc q h) hFc (fun r9 u9 t9 H locs ht hvm e9 hB hz1 hk1 hS => ?_)
    have e9 : r_38 = r9 := e9
    subst e9
    obtain ⟨hP, hD⟩ := y_aft hB ht hFc
    clear hFc hk1 hz1 hvm hB ht
    obtain ⟨e1i, e1j, e1a, e1b, e3⟩ := re4m hm
    obtain ⟨hP, hD⟩ := y_eq e1i e1j e1a e1b hP hD
    exact W.lret hx hb hr (fun t9 ht hW => ⟨⟨_, (), rfl, e3.symm, by rw [ht]; exact hP, hD⟩, hS.F ht⟩) hS.2.2 d_Model_quoted_15
