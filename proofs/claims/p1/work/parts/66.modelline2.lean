theorem d_Model_newList_0 : decode b_Model_newList 0 = .ok (.iconst 1, 1) := by decide +kernel
theorem d_Model_newList_1 : decode b_Model_newList 1 = .ok (.istore_n 2, 1) := by decide +kernel
theorem d_Model_newList_2 : decode b_Model_newList 2 = .ok (.aload_n 0, 1) := by decide +kernel
theorem d_Model_newList_3 : decode b_Model_newList 3 = .ok (.getfield 32, 3) := by decide +kernel
theorem d_Model_newList_6 : decode b_Model_newList 6 = .ok (.iload_n 1, 1) := by decide +kernel
theorem d_Model_newList_7 : decode b_Model_newList 7 = .ok (.isub, 1) := by decide +kernel
theorem d_Model_newList_8 : decode b_Model_newList 8 = .ok (.istore_n 3, 1) := by decide +kernel
theorem d_Model_newList_9 : decode b_Model_newList 9 = .ok (.iload_n 3, 1) := by decide +kernel
theorem d_Model_newList_10 : decode b_Model_newList 10 = .ok (.aload_n 0, 1) := by decide +kernel
theorem d_Model_newList_11 : decode b_Model_newList 11 = .ok (.getfield 32, 3) := by decide +kernel
theorem d_Model_newList_14 : decode b_Model_newList 14 = .ok (.if_icmp .ge 22, 3) := by decide +kernel
theorem d_Model_newList_17 : decode b_Model_newList 17 = .ok (.iload_n 2, 1) := by decide +kernel
theorem d_Model_newList_18 : decode b_Model_newList 18 = .ok (.aload_n 0, 1) := by decide +kernel
theorem d_Model_newList_19 : decode b_Model_newList 19 = .ok (.aload_n 0, 1) := by decide +kernel
theorem d_Model_newList_20 : decode b_Model_newList 20 = .ok (.getfield 35, 3) := by decide +kernel
theorem d_Model_newList_23 : decode b_Model_newList 23 = .ok (.iload_n 3, 1) := by decide +kernel
theorem d_Model_newList_24 : decode b_Model_newList 24 = .ok (.laload, 1) := by decide +kernel
theorem d_Model_newList_25 : decode b_Model_newList 25 = .ok (.invokevirtual 38, 3) := by decide +kernel
theorem d_Model_newList_28 : decode b_Model_newList 28 = .ok (.iadd, 1) := by decide +kernel
theorem d_Model_newList_29 : decode b_Model_newList 29 = .ok (.istore_n 2, 1) := by decide +kernel
theorem d_Model_newList_30 : decode b_Model_newList 30 = .ok (.iinc 3 1, 3) := by decide +kernel
theorem d_Model_newList_33 : decode b_Model_newList 33 = .ok (.goto (-24), 3) := by decide +kernel
theorem d_Model_newList_36 : decode b_Model_newList 36 = .ok (.aload_n 0, 1) := by decide +kernel
theorem d_Model_newList_37 : decode b_Model_newList 37 = .ok (.getfield 41, 3) := by decide +kernel
theorem d_Model_newList_40 : decode b_Model_newList 40 = .ok (.aload_n 0, 1) := by decide +kernel
theorem d_Model_newList_41 : decode b_Model_newList 41 = .ok (.getfield 44, 3) := by decide +kernel
theorem d_Model_newList_44 : decode b_Model_newList 44 = .ok (.aload_n 0, 1) := by decide +kernel
theorem d_Model_newList_45 : decode b_Model_newList 45 = .ok (.getfield 32, 3) := by decide +kernel
theorem d_Model_newList_48 : decode b_Model_newList 48 = .ok (.iload_n 1, 1) := by decide +kernel
theorem d_Model_newList_49 : decode b_Model_newList 49 = .ok (.isub, 1) := by decide +kernel
theorem d_Model_newList_50 : decode b_Model_newList 50 = .ok (.iastore, 1) := by decide +kernel
theorem d_Model_newList_51 : decode b_Model_newList 51 = .ok (.aload_n 0, 1) := by decide +kernel
theorem d_Model_newList_52 : decode b_Model_newList 52 = .ok (.getfield 47, 3) := by decide +kernel
theorem d_Model_newList_55 : decode b_Model_newList 55 = .ok (.aload_n 0, 1) := by decide +kernel
theorem d_Model_newList_56 : decode b_Model_newList 56 = .ok (.getfield 44, 3) := by decide +kernel
theorem d_Model_newList_59 : decode b_Model_newList 59 = .ok (.iload_n 1, 1) := by decide +kernel
theorem d_Model_newList_60 : decode b_Model_newList 60 = .ok (.iastore, 1) := by decide +kernel
theorem d_Model_newList_61 : decode b_Model_newList 61 = .ok (.aload_n 0, 1) := by decide +kernel
theorem d_Model_newList_62 : decode b_Model_newList 62 = .ok (.getfield 50, 3) := by decide +kernel
theorem d_Model_newList_65 : decode b_Model_newList 65 = .ok (.aload_n 0, 1) := by decide +kernel
theorem d_Model_newList_66 : decode b_Model_newList 66 = .ok (.getfield 44, 3) := by decide +kernel
theorem d_Model_newList_69 : decode b_Model_newList 69 = .ok (.iload_n 2, 1) := by decide +kernel
theorem d_Model_newList_70 : decode b_Model_newList 70 = .ok (.iastore, 1) := by decide +kernel
theorem d_Model_newList_71 : decode b_Model_newList 71 = .ok (.aload_n 0, 1) := by decide +kernel
theorem d_Model_newList_72 : decode b_Model_newList 72 = .ok (.dup, 1) := by decide +kernel
theorem d_Model_newList_73 : decode b_Model_newList 73 = .ok (.getfield 44, 3) := by decide +kernel
theorem d_Model_newList_76 : decode b_Model_newList 76 = .ok (.iconst 1, 1) := by decide +kernel
theorem d_Model_newList_77 : decode b_Model_newList 77 = .ok (.iadd, 1) := by decide +kernel
theorem d_Model_newList_78 : decode b_Model_newList 78 = .ok (.putfield 44, 3) := by decide +kernel
theorem d_Model_newList_81 : decode b_Model_newList 81 = .ok (.aload_n 0, 1) := by decide +kernel
theorem d_Model_newList_82 : decode b_Model_newList 82 = .ok (.getfield 44, 3) := by decide +kernel
theorem d_Model_newList_85 : decode b_Model_newList 85 = .ok (.iconst 1, 1) := by decide +kernel
theorem d_Model_newList_86 : decode b_Model_newList 86 = .ok (.isub, 1) := by decide +kernel
theorem d_Model_newList_87 : decode b_Model_newList 87 = .ok (.invokestatic 53, 3) := by decide +kernel
theorem d_Model_newList_90 : decode b_Model_newList 90 = .ok (.lreturn, 1) := by decide +kernel
theorem lk_Model_53 : Cond.methodLink "TurtleWorldModel" 53 ⟨"TurtleWorldModel", "listValue", "(I)J"⟩ ∈ tw_T := tw_i10 114 (by decide +kernel) (by decide +kernel)
theorem st_Model_listValue : Cond.static ⟨"TurtleWorldModel", "listValue", "(I)J"⟩ ∈ tw_T := tw_i10 115 (by decide +kernel) (by decide +kernel)
theorem d_Model_within_0 : decode b_Model_within 0 = .ok (.iconst 0, 1) := by decide +kernel
theorem d_Model_within_1 : decode b_Model_within 1 = .ok (.istore_n 3, 1) := by decide +kernel
theorem d_Model_within_2 : decode b_Model_within 2 = .ok (.iload_n 1, 1) := by decide +kernel
theorem d_Model_within_3 : decode b_Model_within 3 = .ok (.istore 4, 2) := by decide +kernel
theorem d_Model_within_5 : decode b_Model_within 5 = .ok (.iload 4, 2) := by decide +kernel
theorem d_Model_within_7 : decode b_Model_within 7 = .ok (.iload_n 2, 1) := by decide +kernel
theorem d_Model_within_8 : decode b_Model_within 8 = .ok (.if_icmp .ge 78, 3) := by decide +kernel
theorem d_Model_within_11 : decode b_Model_within 11 = .ok (.aload_n 0, 1) := by decide +kernel
theorem d_Model_within_12 : decode b_Model_within 12 = .ok (.getfield 276, 3) := by decide +kernel
theorem d_Model_within_15 : decode b_Model_within 15 = .ok (.iload 4, 2) := by decide +kernel
theorem d_Model_within_17 : decode b_Model_within 17 = .ok (.laload, 1) := by decide +kernel
theorem d_Model_within_18 : decode b_Model_within 18 = .ok (.ldc2_w 7, 3) := by decide +kernel
theorem d_Model_within_21 : decode b_Model_within 21 = .ok (.lcmp, 1) := by decide +kernel
theorem d_Model_within_22 : decode b_Model_within 22 = .ok (.ifCond .ne 7, 3) := by decide +kernel
theorem d_Model_within_25 : decode b_Model_within 25 = .ok (.iconst 1, 1) := by decide +kernel
theorem d_Model_within_26 : decode b_Model_within 26 = .ok (.goto 4, 3) := by decide +kernel
theorem d_Model_within_29 : decode b_Model_within 29 = .ok (.iconst 0, 1) := by decide +kernel
theorem d_Model_within_30 : decode b_Model_within 30 = .ok (.istore 5, 2) := by decide +kernel
theorem d_Model_within_32 : decode b_Model_within 32 = .ok (.aload_n 0, 1) := by decide +kernel
theorem d_Model_within_33 : decode b_Model_within 33 = .ok (.iload 5, 2) := by decide +kernel
theorem d_Model_within_35 : decode b_Model_within 35 = .ok (.ifCond .eq 13, 3) := by decide +kernel
theorem d_Model_within_38 : decode b_Model_within 38 = .ok (.aload_n 0, 1) := by decide +kernel
theorem d_Model_within_39 : decode b_Model_within 39 = .ok (.getfield 282, 3) := by decide +kernel
theorem d_Model_within_42 : decode b_Model_within 42 = .ok (.iload 4, 2) := by decide +kernel
theorem d_Model_within_44 : decode b_Model_within 44 = .ok (.laload, 1) := by decide +kernel
theorem d_Model_within_45 : decode b_Model_within 45 = .ok (.goto 10, 3) := by decide +kernel
theorem d_Model_within_48 : decode b_Model_within 48 = .ok (.aload_n 0, 1) := by decide +kernel
theorem d_Model_within_49 : decode b_Model_within 49 = .ok (.getfield 276, 3) := by decide +kernel
theorem d_Model_within_52 : decode b_Model_within 52 = .ok (.iload 4, 2) := by decide +kernel
theorem d_Model_within_54 : decode b_Model_within 54 = .ok (.laload, 1) := by decide +kernel
theorem d_Model_within_55 : decode b_Model_within 55 = .ok (.invokevirtual 465, 3) := by decide +kernel
theorem d_Model_within_58 : decode b_Model_within 58 = .ok (.iinc 3 1, 3) := by decide +kernel
theorem d_Model_within_61 : decode b_Model_within 61 = .ok (.iload 5, 2) := by decide +kernel
theorem d_Model_within_63 : decode b_Model_within 63 = .ok (.ifCond .eq 13, 3) := by decide +kernel
theorem d_Model_within_66 : decode b_Model_within 66 = .ok (.aload_n 0, 1) := by decide +kernel
theorem d_Model_within_67 : decode b_Model_within 67 = .ok (.getfield 273, 3) := by decide +kernel
theorem d_Model_within_70 : decode b_Model_within 70 = .ok (.iload 4, 2) := by decide +kernel
theorem d_Model_within_72 : decode b_Model_within 72 = .ok (.iaload, 1) := by decide +kernel
theorem d_Model_within_73 : decode b_Model_within 73 = .ok (.goto 5, 3) := by decide +kernel
theorem d_Model_within_76 : decode b_Model_within 76 = .ok (.iload 4, 2) := by decide +kernel
theorem d_Model_within_78 : decode b_Model_within 78 = .ok (.istore 4, 2) := by decide +kernel
theorem d_Model_within_80 : decode b_Model_within 80 = .ok (.iinc 4 1, 3) := by decide +kernel
theorem d_Model_within_83 : decode b_Model_within 83 = .ok (.goto (-78), 3) := by decide +kernel
theorem d_Model_within_86 : decode b_Model_within 86 = .ok (.aload_n 0, 1) := by decide +kernel
theorem d_Model_within_87 : decode b_Model_within 87 = .ok (.iload_n 3, 1) := by decide +kernel
theorem d_Model_within_88 : decode b_Model_within 88 = .ok (.invokevirtual 468, 3) := by decide +kernel
theorem d_Model_within_91 : decode b_Model_within 91 = .ok (.lreturn, 1) := by decide +kernel
theorem lk_Model_468 : Cond.methodLink "TurtleWorldModel" 468 ⟨"TurtleWorldModel", "newList", "(I)J"⟩ ∈ tw_T := tw_i10 103 (by decide +kernel) (by decide +kernel)
theorem in_Model_newList : Cond.instanceMethod ⟨"TurtleWorldModel", "newList", "(I)J"⟩ ∈ tw_T := tw_i10 105 (by decide +kernel) (by decide +kernel)
theorem sel_Model_newList : Cond.selects "TurtleWorldModel" ⟨"TurtleWorldModel", "newList", "(I)J"⟩ ⟨"TurtleWorldModel", "newList", "(I)J"⟩ ∈ tw_T := tw_inS 106 (by decide +kernel) (by decide +kernel)
theorem d_Model_listOf_0 : decode b_Model_listOf 0 = .ok (.iload_n 2, 1) := by decide +kernel
theorem d_Model_listOf_1 : decode b_Model_listOf 1 = .ok (.iconst 1, 1) := by decide +kernel
theorem d_Model_listOf_2 : decode b_Model_listOf 2 = .ok (.isub, 1) := by decide +kernel
theorem d_Model_listOf_3 : decode b_Model_listOf 3 = .ok (.istore_n 3, 1) := by decide +kernel
theorem d_Model_listOf_4 : decode b_Model_listOf 4 = .ok (.iload_n 3, 1) := by decide +kernel
theorem d_Model_listOf_5 : decode b_Model_listOf 5 = .ok (.iload_n 1, 1) := by decide +kernel
theorem d_Model_listOf_6 : decode b_Model_listOf 6 = .ok (.if_icmp .lt 51, 3) := by decide +kernel
theorem d_Model_listOf_9 : decode b_Model_listOf 9 = .ok (.aload_n 0, 1) := by decide +kernel
theorem d_Model_listOf_10 : decode b_Model_listOf 10 = .ok (.getfield 276, 3) := by decide +kernel
theorem d_Model_listOf_13 : decode b_Model_listOf 13 = .ok (.iload_n 3, 1) := by decide +kernel
theorem d_Model_listOf_14 : decode b_Model_listOf 14 = .ok (.laload, 1) := by decide +kernel
theorem d_Model_listOf_15 : decode b_Model_listOf 15 = .ok (.ldc2_w 7, 3) := by decide +kernel
theorem d_Model_listOf_18 : decode b_Model_listOf 18 = .ok (.lcmp, 1) := by decide +kernel
theorem d_Model_listOf_19 : decode b_Model_listOf 19 = .ok (.ifCond .ne 32, 3) := by decide +kernel
theorem d_Model_listOf_22 : decode b_Model_listOf 22 = .ok (.aload_n 0, 1) := by decide +kernel
theorem d_Model_listOf_23 : decode b_Model_listOf 23 = .ok (.getfield 273, 3) := by decide +kernel
theorem d_Model_listOf_26 : decode b_Model_listOf 26 = .ok (.iload_n 3, 1) := by decide +kernel
theorem d_Model_listOf_27 : decode b_Model_listOf 27 = .ok (.iaload, 1) := by decide +kernel
theorem d_Model_listOf_28 : decode b_Model_listOf 28 = .ok (.iload_n 3, 1) := by decide +kernel
theorem d_Model_listOf_29 : decode b_Model_listOf 29 = .ok (.if_icmp .eq 22, 3) := by decide +kernel
theorem d_Model_listOf_32 : decode b_Model_listOf 32 = .ok (.aload_n 0, 1) := by decide +kernel
theorem d_Model_listOf_33 : decode b_Model_listOf 33 = .ok (.getfield 282, 3) := by decide +kernel
theorem d_Model_listOf_36 : decode b_Model_listOf 36 = .ok (.iload_n 3, 1) := by decide +kernel
theorem d_Model_listOf_37 : decode b_Model_listOf 37 = .ok (.aload_n 0, 1) := by decide +kernel
theorem d_Model_listOf_38 : decode b_Model_listOf 38 = .ok (.iload_n 3, 1) := by decide +kernel
theorem d_Model_listOf_39 : decode b_Model_listOf 39 = .ok (.iconst 1, 1) := by decide +kernel
theorem d_Model_listOf_40 : decode b_Model_listOf 40 = .ok (.iadd, 1) := by decide +kernel
theorem d_Model_listOf_41 : decode b_Model_listOf 41 = .ok (.aload_n 0, 1) := by decide +kernel
theorem d_Model_listOf_42 : decode b_Model_listOf 42 = .ok (.getfield 273, 3) := by decide +kernel
theorem d_Model_listOf_45 : decode b_Model_listOf 45 = .ok (.iload_n 3, 1) := by decide +kernel
theorem d_Model_listOf_46 : decode b_Model_listOf 46 = .ok (.iaload, 1) := by decide +kernel
theorem d_Model_listOf_47 : decode b_Model_listOf 47 = .ok (.invokevirtual 461, 3) := by decide +kernel
theorem d_Model_listOf_50 : decode b_Model_listOf 50 = .ok (.lastore, 1) := by decide +kernel
theorem d_Model_listOf_51 : decode b_Model_listOf 51 = .ok (.iinc 3 (-1), 3) := by decide +kernel
theorem d_Model_listOf_54 : decode b_Model_listOf 54 = .ok (.goto (-50), 3) := by decide +kernel
theorem d_Model_listOf_57 : decode b_Model_listOf 57 = .ok (.aload_n 0, 1) := by decide +kernel
theorem d_Model_listOf_58 : decode b_Model_listOf 58 = .ok (.iload_n 1, 1) := by decide +kernel
theorem d_Model_listOf_59 : decode b_Model_listOf 59 = .ok (.iload_n 2, 1) := by decide +kernel
theorem d_Model_listOf_60 : decode b_Model_listOf 60 = .ok (.invokevirtual 461, 3) := by decide +kernel
theorem d_Model_listOf_63 : decode b_Model_listOf 63 = .ok (.lreturn, 1) := by decide +kernel
theorem lk_Model_461 : Cond.methodLink "TurtleWorldModel" 461 ⟨"TurtleWorldModel", "within", "(II)J"⟩ ∈ tw_T := tw_i10 95 (by decide +kernel) (by decide +kernel)
theorem in_Model_within : Cond.instanceMethod ⟨"TurtleWorldModel", "within", "(II)J"⟩ ∈ tw_T := tw_i10 97 (by decide +kernel) (by decide +kernel)
theorem sel_Model_within : Cond.selects "TurtleWorldModel" ⟨"TurtleWorldModel", "within", "(II)J"⟩ ⟨"TurtleWorldModel", "within", "(II)J"⟩ ∈ tw_T := tw_inS 104 (by decide +kernel) (by decide +kernel)
theorem d_Model_move_0 : decode b_Model_move 0 = .ok (.lload_n 1, 1) := by decide +kernel
theorem d_Model_move_1 : decode b_Model_move 1 = .ok (.invokestatic 57, 3) := by decide +kernel
theorem d_Model_move_4 : decode b_Model_move 4 = .ok (.ifCond .eq 5, 3) := by decide +kernel
theorem d_Model_move_7 : decode b_Model_move 7 = .ok (.lload_n 1, 1) := by decide +kernel
theorem d_Model_move_8 : decode b_Model_move 8 = .ok (.lreturn, 1) := by decide +kernel
theorem d_Model_move_9 : decode b_Model_move 9 = .ok (.lload_n 1, 1) := by decide +kernel
theorem d_Model_move_10 : decode b_Model_move 10 = .ok (.invokestatic 61, 3) := by decide +kernel
theorem d_Model_move_13 : decode b_Model_move 13 = .ok (.ifCond .eq 15, 3) := by decide +kernel
theorem d_Model_move_16 : decode b_Model_move 16 = .ok (.aload_n 0, 1) := by decide +kernel
theorem d_Model_move_17 : decode b_Model_move 17 = .ok (.lload_n 1, 1) := by decide +kernel
theorem d_Model_move_18 : decode b_Model_move 18 = .ok (.invokestatic 64, 3) := by decide +kernel
theorem d_Model_move_21 : decode b_Model_move 21 = .ok (.invokevirtual 393, 3) := by decide +kernel
theorem d_Model_move_24 : decode b_Model_move 24 = .ok (.invokestatic 396, 3) := by decide +kernel
theorem d_Model_move_27 : decode b_Model_move 27 = .ok (.lreturn, 1) := by decide +kernel
theorem d_Model_move_28 : decode b_Model_move 28 = .ok (.lload_n 1, 1) := by decide +kernel
theorem d_Model_move_29 : decode b_Model_move 29 = .ok (.invokestatic 64, 3) := by decide +kernel
theorem d_Model_move_32 : decode b_Model_move 32 = .ok (.istore_n 3, 1) := by decide +kernel
theorem d_Model_move_33 : decode b_Model_move 33 = .ok (.aload_n 0, 1) := by decide +kernel
theorem d_Model_move_34 : decode b_Model_move 34 = .ok (.getfield 179, 3) := by decide +kernel
theorem d_Model_move_37 : decode b_Model_move 37 = .ok (.iload_n 3, 1) := by decide +kernel
theorem d_Model_move_38 : decode b_Model_move 38 = .ok (.iaload, 1) := by decide +kernel
theorem d_Model_move_39 : decode b_Model_move 39 = .ok (.iconst (-1), 1) := by decide +kernel
theorem d_Model_move_40 : decode b_Model_move 40 = .ok (.if_icmp .ne 33, 3) := by decide +kernel
theorem d_Model_move_43 : decode b_Model_move 43 = .ok (.aload_n 0, 1) := by decide +kernel
theorem d_Model_move_44 : decode b_Model_move 44 = .ok (.getfield 179, 3) := by decide +kernel
theorem d_Model_move_47 : decode b_Model_move 47 = .ok (.iload_n 3, 1) := by decide +kernel
theorem d_Model_move_48 : decode b_Model_move 48 = .ok (.aload_n 0, 1) := by decide +kernel
theorem d_Model_move_49 : decode b_Model_move 49 = .ok (.getfield 399, 3) := by decide +kernel
theorem d_Model_move_52 : decode b_Model_move 52 = .ok (.iastore, 1) := by decide +kernel
theorem d_Model_move_53 : decode b_Model_move 53 = .ok (.aload_n 0, 1) := by decide +kernel
theorem d_Model_move_54 : decode b_Model_move 54 = .ok (.getfield 255, 3) := by decide +kernel
theorem d_Model_move_57 : decode b_Model_move 57 = .ok (.aload_n 0, 1) := by decide +kernel
theorem d_Model_move_58 : decode b_Model_move 58 = .ok (.getfield 399, 3) := by decide +kernel
theorem d_Model_move_61 : decode b_Model_move 61 = .ok (.iload_n 3, 1) := by decide +kernel
theorem d_Model_move_62 : decode b_Model_move 62 = .ok (.iastore, 1) := by decide +kernel
theorem d_Model_move_63 : decode b_Model_move 63 = .ok (.aload_n 0, 1) := by decide +kernel
theorem d_Model_move_64 : decode b_Model_move 64 = .ok (.dup, 1) := by decide +kernel
theorem d_Model_move_65 : decode b_Model_move 65 = .ok (.getfield 399, 3) := by decide +kernel
theorem d_Model_move_68 : decode b_Model_move 68 = .ok (.iconst 1, 1) := by decide +kernel
theorem d_Model_move_69 : decode b_Model_move 69 = .ok (.iadd, 1) := by decide +kernel
theorem d_Model_move_70 : decode b_Model_move 70 = .ok (.putfield 399, 3) := by decide +kernel
theorem d_Model_move_73 : decode b_Model_move 73 = .ok (.aload_n 0, 1) := by decide +kernel
theorem d_Model_move_74 : decode b_Model_move 74 = .ok (.getfield 179, 3) := by decide +kernel
theorem d_Model_move_77 : decode b_Model_move 77 = .ok (.iload_n 3, 1) := by decide +kernel
theorem d_Model_move_78 : decode b_Model_move 78 = .ok (.iaload, 1) := by decide +kernel
theorem d_Model_move_79 : decode b_Model_move 79 = .ok (.invokestatic 53, 3) := by decide +kernel
theorem d_Model_move_82 : decode b_Model_move 82 = .ok (.lreturn, 1) := by decide +kernel
theorem lk_Model_399 : Cond.fieldLink "TurtleWorldModel" 399 "TurtleWorldModel" "listsToo" "I" ∈ tw_T := tw_i8 148 (by decide +kernel) (by decide +kernel)
theorem d_Model_tidy_0 : decode b_Model_tidy 0 = .ok (.iconst 0, 1) := by decide +kernel
theorem d_Model_tidy_1 : decode b_Model_tidy 1 = .ok (.istore_n 3, 1) := by decide +kernel
theorem d_Model_tidy_2 : decode b_Model_tidy 2 = .ok (.iload_n 3, 1) := by decide +kernel
theorem d_Model_tidy_3 : decode b_Model_tidy 3 = .ok (.aload_n 0, 1) := by decide +kernel
theorem d_Model_tidy_4 : decode b_Model_tidy 4 = .ok (.getfield 19, 3) := by decide +kernel
theorem d_Model_tidy_7 : decode b_Model_tidy 7 = .ok (.if_icmp .ge 16, 3) := by decide +kernel
theorem d_Model_tidy_10 : decode b_Model_tidy 10 = .ok (.aload_n 0, 1) := by decide +kernel
theorem d_Model_tidy_11 : decode b_Model_tidy 11 = .ok (.getfield 166, 3) := by decide +kernel
theorem d_Model_tidy_14 : decode b_Model_tidy 14 = .ok (.iload_n 3, 1) := by decide +kernel
theorem d_Model_tidy_15 : decode b_Model_tidy 15 = .ok (.iconst (-1), 1) := by decide +kernel
theorem d_Model_tidy_16 : decode b_Model_tidy 16 = .ok (.iastore, 1) := by decide +kernel
theorem d_Model_tidy_17 : decode b_Model_tidy 17 = .ok (.iinc 3 1, 3) := by decide +kernel
theorem d_Model_tidy_20 : decode b_Model_tidy 20 = .ok (.goto (-18), 3) := by decide +kernel
theorem d_Model_tidy_23 : decode b_Model_tidy 23 = .ok (.iconst 0, 1) := by decide +kernel
theorem d_Model_tidy_24 : decode b_Model_tidy 24 = .ok (.istore_n 3, 1) := by decide +kernel
theorem d_Model_tidy_25 : decode b_Model_tidy 25 = .ok (.iload_n 3, 1) := by decide +kernel
theorem d_Model_tidy_26 : decode b_Model_tidy 26 = .ok (.aload_n 0, 1) := by decide +kernel
theorem d_Model_tidy_27 : decode b_Model_tidy 27 = .ok (.getfield 44, 3) := by decide +kernel
theorem d_Model_tidy_30 : decode b_Model_tidy 30 = .ok (.if_icmp .ge 16, 3) := by decide +kernel
theorem d_Model_tidy_33 : decode b_Model_tidy 33 = .ok (.aload_n 0, 1) := by decide +kernel
theorem d_Model_tidy_34 : decode b_Model_tidy 34 = .ok (.getfield 179, 3) := by decide +kernel
theorem d_Model_tidy_37 : decode b_Model_tidy 37 = .ok (.iload_n 3, 1) := by decide +kernel
theorem d_Model_tidy_38 : decode b_Model_tidy 38 = .ok (.iconst (-1), 1) := by decide +kernel
theorem d_Model_tidy_39 : decode b_Model_tidy 39 = .ok (.iastore, 1) := by decide +kernel
theorem d_Model_tidy_40 : decode b_Model_tidy 40 = .ok (.iinc 3 1, 3) := by decide +kernel
theorem d_Model_tidy_43 : decode b_Model_tidy 43 = .ok (.goto (-18), 3) := by decide +kernel
theorem d_Model_tidy_46 : decode b_Model_tidy 46 = .ok (.aload_n 0, 1) := by decide +kernel
theorem d_Model_tidy_47 : decode b_Model_tidy 47 = .ok (.iconst 0, 1) := by decide +kernel
theorem d_Model_tidy_48 : decode b_Model_tidy 48 = .ok (.putfield 390, 3) := by decide +kernel
theorem d_Model_tidy_51 : decode b_Model_tidy 51 = .ok (.aload_n 0, 1) := by decide +kernel
theorem d_Model_tidy_52 : decode b_Model_tidy 52 = .ok (.iconst 0, 1) := by decide +kernel
theorem d_Model_tidy_53 : decode b_Model_tidy 53 = .ok (.putfield 387, 3) := by decide +kernel
theorem d_Model_tidy_56 : decode b_Model_tidy 56 = .ok (.aload_n 0, 1) := by decide +kernel
theorem d_Model_tidy_57 : decode b_Model_tidy 57 = .ok (.iconst 0, 1) := by decide +kernel
theorem d_Model_tidy_58 : decode b_Model_tidy 58 = .ok (.putfield 402, 3) := by decide +kernel
theorem d_Model_tidy_61 : decode b_Model_tidy 61 = .ok (.aload_n 0, 1) := by decide +kernel
theorem d_Model_tidy_62 : decode b_Model_tidy 62 = .ok (.iconst 0, 1) := by decide +kernel
theorem d_Model_tidy_63 : decode b_Model_tidy 63 = .ok (.putfield 399, 3) := by decide +kernel
theorem d_Model_tidy_66 : decode b_Model_tidy 66 = .ok (.iconst 0, 1) := by decide +kernel
theorem d_Model_tidy_67 : decode b_Model_tidy 67 = .ok (.istore_n 3, 1) := by decide +kernel
theorem d_Model_tidy_68 : decode b_Model_tidy 68 = .ok (.iload_n 3, 1) := by decide +kernel
theorem d_Model_tidy_69 : decode b_Model_tidy 69 = .ok (.aload_n 0, 1) := by decide +kernel
theorem d_Model_tidy_70 : decode b_Model_tidy 70 = .ok (.getfield 344, 3) := by decide +kernel
theorem d_Model_tidy_73 : decode b_Model_tidy 73 = .ok (.if_icmp .ge 87, 3) := by decide +kernel
theorem d_Model_tidy_76 : decode b_Model_tidy 76 = .ok (.aload_n 0, 1) := by decide +kernel
theorem d_Model_tidy_77 : decode b_Model_tidy 77 = .ok (.getfield 183, 3) := by decide +kernel
theorem d_Model_tidy_80 : decode b_Model_tidy 80 = .ok (.iload_n 3, 1) := by decide +kernel
theorem d_Model_tidy_81 : decode b_Model_tidy 81 = .ok (.aload_n 0, 1) := by decide +kernel
theorem d_Model_tidy_82 : decode b_Model_tidy 82 = .ok (.aload_n 0, 1) := by decide +kernel
theorem d_Model_tidy_83 : decode b_Model_tidy 83 = .ok (.getfield 183, 3) := by decide +kernel
theorem d_Model_tidy_86 : decode b_Model_tidy 86 = .ok (.iload_n 3, 1) := by decide +kernel
theorem d_Model_tidy_87 : decode b_Model_tidy 87 = .ok (.iaload, 1) := by decide +kernel
theorem d_Model_tidy_88 : decode b_Model_tidy 88 = .ok (.invokevirtual 393, 3) := by decide +kernel
theorem d_Model_tidy_91 : decode b_Model_tidy 91 = .ok (.iastore, 1) := by decide +kernel
theorem d_Model_tidy_92 : decode b_Model_tidy 92 = .ok (.iconst 0, 1) := by decide +kernel
theorem d_Model_tidy_93 : decode b_Model_tidy 93 = .ok (.istore 4, 2) := by decide +kernel
theorem d_Model_tidy_95 : decode b_Model_tidy 95 = .ok (.iload 4, 2) := by decide +kernel
theorem d_Model_tidy_97 : decode b_Model_tidy 97 = .ok (.aload_n 0, 1) := by decide +kernel
theorem d_Model_tidy_98 : decode b_Model_tidy 98 = .ok (.getfield 186, 3) := by decide +kernel
theorem d_Model_tidy_101 : decode b_Model_tidy 101 = .ok (.iload_n 3, 1) := by decide +kernel
theorem d_Model_tidy_102 : decode b_Model_tidy 102 = .ok (.iaload, 1) := by decide +kernel
theorem d_Model_tidy_103 : decode b_Model_tidy 103 = .ok (.if_icmp .ge 35, 3) := by decide +kernel
theorem d_Model_tidy_106 : decode b_Model_tidy 106 = .ok (.aload_n 0, 1) := by decide +kernel
theorem d_Model_tidy_107 : decode b_Model_tidy 107 = .ok (.getfield 189, 3) := by decide +kernel
theorem d_Model_tidy_110 : decode b_Model_tidy 110 = .ok (.iconst 5, 1) := by decide +kernel
theorem d_Model_tidy_111 : decode b_Model_tidy 111 = .ok (.iload_n 3, 1) := by decide +kernel
theorem d_Model_tidy_112 : decode b_Model_tidy 112 = .ok (.imul, 1) := by decide +kernel
theorem d_Model_tidy_113 : decode b_Model_tidy 113 = .ok (.iload 4, 2) := by decide +kernel
theorem d_Model_tidy_115 : decode b_Model_tidy 115 = .ok (.iadd, 1) := by decide +kernel
theorem d_Model_tidy_116 : decode b_Model_tidy 116 = .ok (.aload_n 0, 1) := by decide +kernel
theorem d_Model_tidy_117 : decode b_Model_tidy 117 = .ok (.aload_n 0, 1) := by decide +kernel
theorem d_Model_tidy_118 : decode b_Model_tidy 118 = .ok (.getfield 189, 3) := by decide +kernel
theorem d_Model_tidy_121 : decode b_Model_tidy 121 = .ok (.iconst 5, 1) := by decide +kernel
theorem d_Model_tidy_122 : decode b_Model_tidy 122 = .ok (.iload_n 3, 1) := by decide +kernel
theorem d_Model_tidy_123 : decode b_Model_tidy 123 = .ok (.imul, 1) := by decide +kernel
theorem d_Model_tidy_124 : decode b_Model_tidy 124 = .ok (.iload 4, 2) := by decide +kernel
theorem d_Model_tidy_126 : decode b_Model_tidy 126 = .ok (.iadd, 1) := by decide +kernel
theorem d_Model_tidy_127 : decode b_Model_tidy 127 = .ok (.iaload, 1) := by decide +kernel
theorem d_Model_tidy_128 : decode b_Model_tidy 128 = .ok (.invokevirtual 393, 3) := by decide +kernel
theorem d_Model_tidy_131 : decode b_Model_tidy 131 = .ok (.iastore, 1) := by decide +kernel
theorem d_Model_tidy_132 : decode b_Model_tidy 132 = .ok (.iinc 4 1, 3) := by decide +kernel
theorem d_Model_tidy_135 : decode b_Model_tidy 135 = .ok (.goto (-40), 3) := by decide +kernel
theorem d_Model_tidy_138 : decode b_Model_tidy 138 = .ok (.aload_n 0, 1) := by decide +kernel
theorem d_Model_tidy_139 : decode b_Model_tidy 139 = .ok (.getfield 192, 3) := by decide +kernel
theorem d_Model_tidy_142 : decode b_Model_tidy 142 = .ok (.iload_n 3, 1) := by decide +kernel
theorem d_Model_tidy_143 : decode b_Model_tidy 143 = .ok (.aload_n 0, 1) := by decide +kernel
theorem d_Model_tidy_144 : decode b_Model_tidy 144 = .ok (.aload_n 0, 1) := by decide +kernel
theorem d_Model_tidy_145 : decode b_Model_tidy 145 = .ok (.getfield 192, 3) := by decide +kernel
theorem d_Model_tidy_148 : decode b_Model_tidy 148 = .ok (.iload_n 3, 1) := by decide +kernel
theorem d_Model_tidy_149 : decode b_Model_tidy 149 = .ok (.laload, 1) := by decide +kernel
theorem d_Model_tidy_150 : decode b_Model_tidy 150 = .ok (.invokevirtual 405, 3) := by decide +kernel
theorem d_Model_tidy_153 : decode b_Model_tidy 153 = .ok (.lastore, 1) := by decide +kernel
theorem d_Model_tidy_154 : decode b_Model_tidy 154 = .ok (.iinc 3 1, 3) := by decide +kernel
theorem d_Model_tidy_157 : decode b_Model_tidy 157 = .ok (.goto (-89), 3) := by decide +kernel
theorem d_Model_tidy_160 : decode b_Model_tidy 160 = .ok (.iconst 0, 1) := by decide +kernel
theorem d_Model_tidy_161 : decode b_Model_tidy 161 = .ok (.istore_n 3, 1) := by decide +kernel
theorem d_Model_tidy_162 : decode b_Model_tidy 162 = .ok (.iload_n 3, 1) := by decide +kernel
theorem d_Model_tidy_163 : decode b_Model_tidy 163 = .ok (.aload_n 0, 1) := by decide +kernel
theorem d_Model_tidy_164 : decode b_Model_tidy 164 = .ok (.getfield 350, 3) := by decide +kernel
theorem d_Model_tidy_167 : decode b_Model_tidy 167 = .ok (.if_icmp .ge 41, 3) := by decide +kernel
theorem d_Model_tidy_170 : decode b_Model_tidy 170 = .ok (.aload_n 0, 1) := by decide +kernel
theorem d_Model_tidy_171 : decode b_Model_tidy 171 = .ok (.getfield 195, 3) := by decide +kernel
theorem d_Model_tidy_174 : decode b_Model_tidy 174 = .ok (.iload_n 3, 1) := by decide +kernel
theorem d_Model_tidy_175 : decode b_Model_tidy 175 = .ok (.aload_n 0, 1) := by decide +kernel
theorem d_Model_tidy_176 : decode b_Model_tidy 176 = .ok (.aload_n 0, 1) := by decide +kernel
theorem d_Model_tidy_177 : decode b_Model_tidy 177 = .ok (.getfield 195, 3) := by decide +kernel
theorem d_Model_tidy_180 : decode b_Model_tidy 180 = .ok (.iload_n 3, 1) := by decide +kernel
theorem d_Model_tidy_181 : decode b_Model_tidy 181 = .ok (.iaload, 1) := by decide +kernel
theorem d_Model_tidy_182 : decode b_Model_tidy 182 = .ok (.invokevirtual 393, 3) := by decide +kernel
theorem d_Model_tidy_185 : decode b_Model_tidy 185 = .ok (.iastore, 1) := by decide +kernel
theorem d_Model_tidy_186 : decode b_Model_tidy 186 = .ok (.aload_n 0, 1) := by decide +kernel
theorem d_Model_tidy_187 : decode b_Model_tidy 187 = .ok (.getfield 198, 3) := by decide +kernel
theorem d_Model_tidy_190 : decode b_Model_tidy 190 = .ok (.iload_n 3, 1) := by decide +kernel
theorem d_Model_tidy_191 : decode b_Model_tidy 191 = .ok (.aload_n 0, 1) := by decide +kernel
theorem d_Model_tidy_192 : decode b_Model_tidy 192 = .ok (.aload_n 0, 1) := by decide +kernel
theorem d_Model_tidy_193 : decode b_Model_tidy 193 = .ok (.getfield 198, 3) := by decide +kernel
theorem d_Model_tidy_196 : decode b_Model_tidy 196 = .ok (.iload_n 3, 1) := by decide +kernel
theorem d_Model_tidy_197 : decode b_Model_tidy 197 = .ok (.laload, 1) := by decide +kernel
theorem d_Model_tidy_198 : decode b_Model_tidy 198 = .ok (.invokevirtual 405, 3) := by decide +kernel
theorem d_Model_tidy_201 : decode b_Model_tidy 201 = .ok (.lastore, 1) := by decide +kernel
theorem d_Model_tidy_202 : decode b_Model_tidy 202 = .ok (.iinc 3 1, 3) := by decide +kernel
theorem d_Model_tidy_205 : decode b_Model_tidy 205 = .ok (.goto (-43), 3) := by decide +kernel
theorem d_Model_tidy_208 : decode b_Model_tidy 208 = .ok (.aload_n 0, 1) := by decide +kernel
theorem d_Model_tidy_209 : decode b_Model_tidy 209 = .ok (.lload_n 1, 1) := by decide +kernel
theorem d_Model_tidy_210 : decode b_Model_tidy 210 = .ok (.invokevirtual 405, 3) := by decide +kernel
theorem d_Model_tidy_213 : decode b_Model_tidy 213 = .ok (.lstore_n 3, 1) := by decide +kernel
theorem d_Model_tidy_214 : decode b_Model_tidy 214 = .ok (.iconst 0, 1) := by decide +kernel
theorem d_Model_tidy_215 : decode b_Model_tidy 215 = .ok (.istore 5, 2) := by decide +kernel
theorem d_Model_tidy_217 : decode b_Model_tidy 217 = .ok (.iload 5, 2) := by decide +kernel
theorem d_Model_tidy_219 : decode b_Model_tidy 219 = .ok (.aload_n 0, 1) := by decide +kernel
theorem d_Model_tidy_220 : decode b_Model_tidy 220 = .ok (.getfield 399, 3) := by decide +kernel
theorem d_Model_tidy_223 : decode b_Model_tidy 223 = .ok (.if_icmp .ge 114, 3) := by decide +kernel
theorem d_Model_tidy_226 : decode b_Model_tidy 226 = .ok (.aload_n 0, 1) := by decide +kernel
theorem d_Model_tidy_227 : decode b_Model_tidy 227 = .ok (.getfield 255, 3) := by decide +kernel
theorem d_Model_tidy_230 : decode b_Model_tidy 230 = .ok (.iload 5, 2) := by decide +kernel
theorem d_Model_tidy_232 : decode b_Model_tidy 232 = .ok (.iaload, 1) := by decide +kernel
theorem d_Model_tidy_233 : decode b_Model_tidy 233 = .ok (.istore 6, 2) := by decide +kernel
theorem d_Model_tidy_235 : decode b_Model_tidy 235 = .ok (.aload_n 0, 1) := by decide +kernel
theorem d_Model_tidy_236 : decode b_Model_tidy 236 = .ok (.getfield 173, 3) := by decide +kernel
theorem d_Model_tidy_239 : decode b_Model_tidy 239 = .ok (.iload 5, 2) := by decide +kernel
theorem d_Model_tidy_241 : decode b_Model_tidy 241 = .ok (.aload_n 0, 1) := by decide +kernel
theorem d_Model_tidy_242 : decode b_Model_tidy 242 = .ok (.getfield 402, 3) := by decide +kernel
theorem d_Model_tidy_245 : decode b_Model_tidy 245 = .ok (.iastore, 1) := by decide +kernel
theorem d_Model_tidy_246 : decode b_Model_tidy 246 = .ok (.aload_n 0, 1) := by decide +kernel
theorem d_Model_tidy_247 : decode b_Model_tidy 247 = .ok (.getfield 176, 3) := by decide +kernel
theorem d_Model_tidy_250 : decode b_Model_tidy 250 = .ok (.iload 5, 2) := by decide +kernel
theorem d_Model_tidy_252 : decode b_Model_tidy 252 = .ok (.aload_n 0, 1) := by decide +kernel
theorem d_Model_tidy_253 : decode b_Model_tidy 253 = .ok (.getfield 47, 3) := by decide +kernel
theorem d_Model_tidy_256 : decode b_Model_tidy 256 = .ok (.iload 6, 2) := by decide +kernel
theorem d_Model_tidy_258 : decode b_Model_tidy 258 = .ok (.iaload, 1) := by decide +kernel
theorem d_Model_tidy_259 : decode b_Model_tidy 259 = .ok (.iastore, 1) := by decide +kernel
theorem d_Model_tidy_260 : decode b_Model_tidy 260 = .ok (.aload_n 0, 1) := by decide +kernel
theorem d_Model_tidy_261 : decode b_Model_tidy 261 = .ok (.dup, 1) := by decide +kernel
theorem d_Model_tidy_262 : decode b_Model_tidy 262 = .ok (.getfield 402, 3) := by decide +kernel
theorem d_Model_tidy_265 : decode b_Model_tidy 265 = .ok (.aload_n 0, 1) := by decide +kernel
theorem d_Model_tidy_266 : decode b_Model_tidy 266 = .ok (.getfield 47, 3) := by decide +kernel
theorem d_Model_tidy_269 : decode b_Model_tidy 269 = .ok (.iload 6, 2) := by decide +kernel
theorem d_Model_tidy_271 : decode b_Model_tidy 271 = .ok (.iaload, 1) := by decide +kernel
theorem d_Model_tidy_272 : decode b_Model_tidy 272 = .ok (.iadd, 1) := by decide +kernel
theorem d_Model_tidy_273 : decode b_Model_tidy 273 = .ok (.putfield 402, 3) := by decide +kernel
theorem d_Model_tidy_276 : decode b_Model_tidy 276 = .ok (.iconst 0, 1) := by decide +kernel
theorem d_Model_tidy_277 : decode b_Model_tidy 277 = .ok (.istore 7, 2) := by decide +kernel
theorem d_Model_tidy_279 : decode b_Model_tidy 279 = .ok (.iload 7, 2) := by decide +kernel
theorem d_Model_tidy_281 : decode b_Model_tidy 281 = .ok (.aload_n 0, 1) := by decide +kernel
theorem d_Model_tidy_282 : decode b_Model_tidy 282 = .ok (.getfield 47, 3) := by decide +kernel
theorem d_Model_tidy_285 : decode b_Model_tidy 285 = .ok (.iload 6, 2) := by decide +kernel
theorem d_Model_tidy_287 : decode b_Model_tidy 287 = .ok (.iaload, 1) := by decide +kernel
theorem d_Model_tidy_288 : decode b_Model_tidy 288 = .ok (.if_icmp .ge 43, 3) := by decide +kernel
theorem d_Model_tidy_291 : decode b_Model_tidy 291 = .ok (.aload_n 0, 1) := by decide +kernel
theorem d_Model_tidy_292 : decode b_Model_tidy 292 = .ok (.getfield 170, 3) := by decide +kernel
theorem d_Model_tidy_295 : decode b_Model_tidy 295 = .ok (.aload_n 0, 1) := by decide +kernel
theorem d_Model_tidy_296 : decode b_Model_tidy 296 = .ok (.getfield 173, 3) := by decide +kernel
theorem d_Model_tidy_299 : decode b_Model_tidy 299 = .ok (.iload 5, 2) := by decide +kernel
theorem d_Model_tidy_301 : decode b_Model_tidy 301 = .ok (.iaload, 1) := by decide +kernel
theorem d_Model_tidy_302 : decode b_Model_tidy 302 = .ok (.iload 7, 2) := by decide +kernel
theorem d_Model_tidy_304 : decode b_Model_tidy 304 = .ok (.iadd, 1) := by decide +kernel
theorem d_Model_tidy_305 : decode b_Model_tidy 305 = .ok (.aload_n 0, 1) := by decide +kernel
theorem d_Model_tidy_306 : decode b_Model_tidy 306 = .ok (.aload_n 0, 1) := by decide +kernel
theorem d_Model_tidy_307 : decode b_Model_tidy 307 = .ok (.getfield 35, 3) := by decide +kernel
theorem d_Model_tidy_310 : decode b_Model_tidy 310 = .ok (.aload_n 0, 1) := by decide +kernel
theorem d_Model_tidy_311 : decode b_Model_tidy 311 = .ok (.getfield 41, 3) := by decide +kernel
theorem d_Model_tidy_314 : decode b_Model_tidy 314 = .ok (.iload 6, 2) := by decide +kernel
theorem d_Model_tidy_316 : decode b_Model_tidy 316 = .ok (.iaload, 1) := by decide +kernel
theorem d_Model_tidy_317 : decode b_Model_tidy 317 = .ok (.iload 7, 2) := by decide +kernel
theorem d_Model_tidy_319 : decode b_Model_tidy 319 = .ok (.iadd, 1) := by decide +kernel
theorem d_Model_tidy_320 : decode b_Model_tidy 320 = .ok (.laload, 1) := by decide +kernel
theorem d_Model_tidy_321 : decode b_Model_tidy 321 = .ok (.invokevirtual 405, 3) := by decide +kernel
theorem d_Model_tidy_324 : decode b_Model_tidy 324 = .ok (.lastore, 1) := by decide +kernel
theorem d_Model_tidy_325 : decode b_Model_tidy 325 = .ok (.iinc 7 1, 3) := by decide +kernel
theorem d_Model_tidy_328 : decode b_Model_tidy 328 = .ok (.goto (-49), 3) := by decide +kernel
theorem d_Model_tidy_331 : decode b_Model_tidy 331 = .ok (.iinc 5 1, 3) := by decide +kernel
theorem d_Model_tidy_334 : decode b_Model_tidy 334 = .ok (.goto (-117), 3) := by decide +kernel
theorem d_Model_tidy_337 : decode b_Model_tidy 337 = .ok (.iconst 0, 1) := by decide +kernel
theorem d_Model_tidy_338 : decode b_Model_tidy 338 = .ok (.istore 5, 2) := by decide +kernel
theorem d_Model_tidy_340 : decode b_Model_tidy 340 = .ok (.iload 5, 2) := by decide +kernel
theorem d_Model_tidy_342 : decode b_Model_tidy 342 = .ok (.aload_n 0, 1) := by decide +kernel
theorem d_Model_tidy_343 : decode b_Model_tidy 343 = .ok (.getfield 399, 3) := by decide +kernel
theorem d_Model_tidy_346 : decode b_Model_tidy 346 = .ok (.if_icmp .ge 28, 3) := by decide +kernel
theorem d_Model_tidy_349 : decode b_Model_tidy 349 = .ok (.aload_n 0, 1) := by decide +kernel
theorem d_Model_tidy_350 : decode b_Model_tidy 350 = .ok (.getfield 258, 3) := by decide +kernel
theorem d_Model_tidy_353 : decode b_Model_tidy 353 = .ok (.iload 5, 2) := by decide +kernel
theorem d_Model_tidy_355 : decode b_Model_tidy 355 = .ok (.aload_n 0, 1) := by decide +kernel
theorem d_Model_tidy_356 : decode b_Model_tidy 356 = .ok (.getfield 50, 3) := by decide +kernel
theorem d_Model_tidy_359 : decode b_Model_tidy 359 = .ok (.aload_n 0, 1) := by decide +kernel
theorem d_Model_tidy_360 : decode b_Model_tidy 360 = .ok (.getfield 255, 3) := by decide +kernel
theorem d_Model_tidy_363 : decode b_Model_tidy 363 = .ok (.iload 5, 2) := by decide +kernel
theorem d_Model_tidy_365 : decode b_Model_tidy 365 = .ok (.iaload, 1) := by decide +kernel
theorem d_Model_tidy_366 : decode b_Model_tidy 366 = .ok (.iaload, 1) := by decide +kernel
theorem d_Model_tidy_367 : decode b_Model_tidy 367 = .ok (.iastore, 1) := by decide +kernel
theorem d_Model_tidy_368 : decode b_Model_tidy 368 = .ok (.iinc 5 1, 3) := by decide +kernel
theorem d_Model_tidy_371 : decode b_Model_tidy 371 = .ok (.goto (-31), 3) := by decide +kernel
theorem d_Model_tidy_374 : decode b_Model_tidy 374 = .ok (.aload_n 0, 1) := by decide +kernel
theorem d_Model_tidy_375 : decode b_Model_tidy 375 = .ok (.getfield 258, 3) := by decide +kernel
theorem d_Model_tidy_378 : decode b_Model_tidy 378 = .ok (.iconst 0, 1) := by decide +kernel
theorem d_Model_tidy_379 : decode b_Model_tidy 379 = .ok (.aload_n 0, 1) := by decide +kernel
theorem d_Model_tidy_380 : decode b_Model_tidy 380 = .ok (.getfield 50, 3) := by decide +kernel
theorem d_Model_tidy_383 : decode b_Model_tidy 383 = .ok (.iconst 0, 1) := by decide +kernel
theorem d_Model_tidy_384 : decode b_Model_tidy 384 = .ok (.aload_n 0, 1) := by decide +kernel
theorem d_Model_tidy_385 : decode b_Model_tidy 385 = .ok (.getfield 399, 3) := by decide +kernel
theorem d_Model_tidy_388 : decode b_Model_tidy 388 = .ok (.invokestatic 334, 3) := by decide +kernel
theorem d_Model_tidy_391 : decode b_Model_tidy 391 = .ok (.aload_n 0, 1) := by decide +kernel
theorem d_Model_tidy_392 : decode b_Model_tidy 392 = .ok (.getfield 173, 3) := by decide +kernel
theorem d_Model_tidy_395 : decode b_Model_tidy 395 = .ok (.iconst 0, 1) := by decide +kernel
theorem d_Model_tidy_396 : decode b_Model_tidy 396 = .ok (.aload_n 0, 1) := by decide +kernel
theorem d_Model_tidy_397 : decode b_Model_tidy 397 = .ok (.getfield 41, 3) := by decide +kernel
theorem d_Model_tidy_400 : decode b_Model_tidy 400 = .ok (.iconst 0, 1) := by decide +kernel
theorem d_Model_tidy_401 : decode b_Model_tidy 401 = .ok (.aload_n 0, 1) := by decide +kernel
theorem d_Model_tidy_402 : decode b_Model_tidy 402 = .ok (.getfield 399, 3) := by decide +kernel
theorem d_Model_tidy_405 : decode b_Model_tidy 405 = .ok (.invokestatic 334, 3) := by decide +kernel
theorem d_Model_tidy_408 : decode b_Model_tidy 408 = .ok (.aload_n 0, 1) := by decide +kernel
theorem d_Model_tidy_409 : decode b_Model_tidy 409 = .ok (.getfield 176, 3) := by decide +kernel
theorem d_Model_tidy_412 : decode b_Model_tidy 412 = .ok (.iconst 0, 1) := by decide +kernel
theorem d_Model_tidy_413 : decode b_Model_tidy 413 = .ok (.aload_n 0, 1) := by decide +kernel
theorem d_Model_tidy_414 : decode b_Model_tidy 414 = .ok (.getfield 47, 3) := by decide +kernel
theorem d_Model_tidy_417 : decode b_Model_tidy 417 = .ok (.iconst 0, 1) := by decide +kernel
theorem d_Model_tidy_418 : decode b_Model_tidy 418 = .ok (.aload_n 0, 1) := by decide +kernel
theorem d_Model_tidy_419 : decode b_Model_tidy 419 = .ok (.getfield 399, 3) := by decide +kernel
theorem d_Model_tidy_422 : decode b_Model_tidy 422 = .ok (.invokestatic 334, 3) := by decide +kernel
theorem d_Model_tidy_425 : decode b_Model_tidy 425 = .ok (.aload_n 0, 1) := by decide +kernel
theorem d_Model_tidy_426 : decode b_Model_tidy 426 = .ok (.getfield 170, 3) := by decide +kernel
theorem d_Model_tidy_429 : decode b_Model_tidy 429 = .ok (.iconst 0, 1) := by decide +kernel
theorem d_Model_tidy_430 : decode b_Model_tidy 430 = .ok (.aload_n 0, 1) := by decide +kernel
theorem d_Model_tidy_431 : decode b_Model_tidy 431 = .ok (.getfield 35, 3) := by decide +kernel
theorem d_Model_tidy_434 : decode b_Model_tidy 434 = .ok (.iconst 0, 1) := by decide +kernel
theorem d_Model_tidy_435 : decode b_Model_tidy 435 = .ok (.aload_n 0, 1) := by decide +kernel
theorem d_Model_tidy_436 : decode b_Model_tidy 436 = .ok (.getfield 402, 3) := by decide +kernel
theorem d_Model_tidy_439 : decode b_Model_tidy 439 = .ok (.invokestatic 334, 3) := by decide +kernel
theorem d_Model_tidy_442 : decode b_Model_tidy 442 = .ok (.aload_n 0, 1) := by decide +kernel
theorem d_Model_tidy_443 : decode b_Model_tidy 443 = .ok (.getfield 160, 3) := by decide +kernel
theorem d_Model_tidy_446 : decode b_Model_tidy 446 = .ok (.iconst 0, 1) := by decide +kernel
theorem d_Model_tidy_447 : decode b_Model_tidy 447 = .ok (.aload_n 0, 1) := by decide +kernel
theorem d_Model_tidy_448 : decode b_Model_tidy 448 = .ok (.getfield 15, 3) := by decide +kernel
theorem d_Model_tidy_451 : decode b_Model_tidy 451 = .ok (.iconst 0, 1) := by decide +kernel
theorem d_Model_tidy_452 : decode b_Model_tidy 452 = .ok (.aload_n 0, 1) := by decide +kernel
theorem d_Model_tidy_453 : decode b_Model_tidy 453 = .ok (.getfield 390, 3) := by decide +kernel
theorem d_Model_tidy_456 : decode b_Model_tidy 456 = .ok (.invokestatic 334, 3) := by decide +kernel
theorem d_Model_tidy_459 : decode b_Model_tidy 459 = .ok (.aload_n 0, 1) := by decide +kernel
theorem d_Model_tidy_460 : decode b_Model_tidy 460 = .ok (.getfield 163, 3) := by decide +kernel
theorem d_Model_tidy_463 : decode b_Model_tidy 463 = .ok (.iconst 0, 1) := by decide +kernel
theorem d_Model_tidy_464 : decode b_Model_tidy 464 = .ok (.aload_n 0, 1) := by decide +kernel
theorem d_Model_tidy_465 : decode b_Model_tidy 465 = .ok (.getfield 22, 3) := by decide +kernel
theorem d_Model_tidy_468 : decode b_Model_tidy 468 = .ok (.iconst 0, 1) := by decide +kernel
theorem d_Model_tidy_469 : decode b_Model_tidy 469 = .ok (.aload_n 0, 1) := by decide +kernel
theorem d_Model_tidy_470 : decode b_Model_tidy 470 = .ok (.getfield 390, 3) := by decide +kernel
theorem d_Model_tidy_473 : decode b_Model_tidy 473 = .ok (.invokestatic 334, 3) := by decide +kernel
theorem d_Model_tidy_476 : decode b_Model_tidy 476 = .ok (.aload_n 0, 1) := by decide +kernel
theorem d_Model_tidy_477 : decode b_Model_tidy 477 = .ok (.getfield 156, 3) := by decide +kernel
theorem d_Model_tidy_480 : decode b_Model_tidy 480 = .ok (.iconst 0, 1) := by decide +kernel
theorem d_Model_tidy_481 : decode b_Model_tidy 481 = .ok (.aload_n 0, 1) := by decide +kernel
theorem d_Model_tidy_482 : decode b_Model_tidy 482 = .ok (.getfield 67, 3) := by decide +kernel
theorem d_Model_tidy_485 : decode b_Model_tidy 485 = .ok (.iconst 0, 1) := by decide +kernel
theorem d_Model_tidy_486 : decode b_Model_tidy 486 = .ok (.aload_n 0, 1) := by decide +kernel
theorem d_Model_tidy_487 : decode b_Model_tidy 487 = .ok (.getfield 387, 3) := by decide +kernel
theorem d_Model_tidy_490 : decode b_Model_tidy 490 = .ok (.invokestatic 334, 3) := by decide +kernel
theorem d_Model_tidy_493 : decode b_Model_tidy 493 = .ok (.aload_n 0, 1) := by decide +kernel
theorem d_Model_tidy_494 : decode b_Model_tidy 494 = .ok (.aload_n 0, 1) := by decide +kernel
theorem d_Model_tidy_495 : decode b_Model_tidy 495 = .ok (.getfield 390, 3) := by decide +kernel
theorem d_Model_tidy_498 : decode b_Model_tidy 498 = .ok (.putfield 19, 3) := by decide +kernel
theorem d_Model_tidy_501 : decode b_Model_tidy 501 = .ok (.aload_n 0, 1) := by decide +kernel
theorem d_Model_tidy_502 : decode b_Model_tidy 502 = .ok (.aload_n 0, 1) := by decide +kernel
theorem d_Model_tidy_503 : decode b_Model_tidy 503 = .ok (.getfield 387, 3) := by decide +kernel
theorem d_Model_tidy_506 : decode b_Model_tidy 506 = .ok (.putfield 372, 3) := by decide +kernel
theorem d_Model_tidy_509 : decode b_Model_tidy 509 = .ok (.aload_n 0, 1) := by decide +kernel
theorem d_Model_tidy_510 : decode b_Model_tidy 510 = .ok (.aload_n 0, 1) := by decide +kernel
theorem d_Model_tidy_511 : decode b_Model_tidy 511 = .ok (.getfield 402, 3) := by decide +kernel
theorem d_Model_tidy_514 : decode b_Model_tidy 514 = .ok (.putfield 32, 3) := by decide +kernel
theorem d_Model_tidy_517 : decode b_Model_tidy 517 = .ok (.aload_n 0, 1) := by decide +kernel
theorem d_Model_tidy_518 : decode b_Model_tidy 518 = .ok (.aload_n 0, 1) := by decide +kernel
theorem d_Model_tidy_519 : decode b_Model_tidy 519 = .ok (.getfield 399, 3) := by decide +kernel
theorem d_Model_tidy_522 : decode b_Model_tidy 522 = .ok (.putfield 44, 3) := by decide +kernel
theorem d_Model_tidy_525 : decode b_Model_tidy 525 = .ok (.iconst 0, 1) := by decide +kernel
theorem d_Model_tidy_526 : decode b_Model_tidy 526 = .ok (.istore 5, 2) := by decide +kernel
theorem d_Model_tidy_528 : decode b_Model_tidy 528 = .ok (.iload 5, 2) := by decide +kernel
theorem d_Model_tidy_530 : decode b_Model_tidy 530 = .ok (.aload_n 0, 1) := by decide +kernel
theorem d_Model_tidy_531 : decode b_Model_tidy 531 = .ok (.getfield 19, 3) := by decide +kernel
theorem d_Model_tidy_534 : decode b_Model_tidy 534 = .ok (.if_icmp .ge 27, 3) := by decide +kernel
theorem d_Model_tidy_537 : decode b_Model_tidy 537 = .ok (.aload_n 0, 1) := by decide +kernel
theorem d_Model_tidy_538 : decode b_Model_tidy 538 = .ok (.getfield 25, 3) := by decide +kernel
theorem d_Model_tidy_541 : decode b_Model_tidy 541 = .ok (.iload 5, 2) := by decide +kernel
theorem d_Model_tidy_543 : decode b_Model_tidy 543 = .ok (.iconst 0, 1) := by decide +kernel
theorem d_Model_tidy_544 : decode b_Model_tidy 544 = .ok (.iastore, 1) := by decide +kernel
theorem d_Model_tidy_545 : decode b_Model_tidy 545 = .ok (.aload_n 0, 1) := by decide +kernel
theorem d_Model_tidy_546 : decode b_Model_tidy 546 = .ok (.getfield 28, 3) := by decide +kernel
theorem d_Model_tidy_549 : decode b_Model_tidy 549 = .ok (.iload 5, 2) := by decide +kernel
theorem d_Model_tidy_551 : decode b_Model_tidy 551 = .ok (.ldc2_w 7, 3) := by decide +kernel
theorem d_Model_tidy_554 : decode b_Model_tidy 554 = .ok (.lastore, 1) := by decide +kernel
theorem d_Model_tidy_555 : decode b_Model_tidy 555 = .ok (.iinc 5 1, 3) := by decide +kernel
theorem d_Model_tidy_558 : decode b_Model_tidy 558 = .ok (.goto (-30), 3) := by decide +kernel
theorem d_Model_tidy_561 : decode b_Model_tidy 561 = .ok (.lload_n 3, 1) := by decide +kernel
theorem d_Model_tidy_562 : decode b_Model_tidy 562 = .ok (.lreturn, 1) := by decide +kernel
theorem lk_Model_390 : Cond.fieldLink "TurtleWorldModel" 390 "TurtleWorldModel" "wordsToo" "I" ∈ tw_T := tw_i8 145 (by decide +kernel) (by decide +kernel)
theorem lk_Model_387 : Cond.fieldLink "TurtleWorldModel" 387 "TurtleWorldModel" "lettersToo" "I" ∈ tw_T := tw_i8 146 (by decide +kernel) (by decide +kernel)
theorem lk_Model_402 : Cond.fieldLink "TurtleWorldModel" 402 "TurtleWorldModel" "cellsToo" "I" ∈ tw_T := tw_i8 147 (by decide +kernel) (by decide +kernel)
theorem lk_Model_405 : Cond.methodLink "TurtleWorldModel" 405 ⟨"TurtleWorldModel", "move", "(J)J"⟩ ∈ tw_T := tw_i10 126 (by decide +kernel) (by decide +kernel)
theorem in_Model_move : Cond.instanceMethod ⟨"TurtleWorldModel", "move", "(J)J"⟩ ∈ tw_T := tw_i10 128 (by decide +kernel) (by decide +kernel)
theorem sel_Model_move : Cond.selects "TurtleWorldModel" ⟨"TurtleWorldModel", "move", "(J)J"⟩ ⟨"TurtleWorldModel", "move", "(J)J"⟩ ∈ tw_T := tw_inS 110 (by decide +kernel) (by decide +kernel)
theorem lk_Model_334 : Cond.methodLink "TurtleWorldModel" 334 ⟨"java/lang/System", "arraycopy", "(Ljava/lang/Object;ILjava/lang/Object;II)V"⟩ ∈ tw_T := tw_i10 33 (by decide +kernel) (by decide +kernel)
set_option maxHeartbeats 4000000 in
set_option maxRecDepth 100000 in
theorem c_Model_scan_c2 (l : Launch) (dC : Nat → ClassId) (dI : Nat → Nat → Nat) (sz : Nat) (h0 : Nat) (v_r : Nat → Nat) (cI : ClassId) (cJ : ClassId) (cB : ClassId) (sd : Int32)  : Met l y_Model_scan w_Model_scan ({ frames := 0, cells := 0, slots := 0, locals := 0 }) (va_Pc [.ref h0, .int 0] (fun U => U.heap.size = sz ∧ va_P (dC, dI) classes [(h0, .inr (12, mo v_r (upd (mi0 sd) 0 0) (fun _ => 0)))] U.heap ∧ va_K (dC, dI) classes [(cI, .int), (cJ, .long), (cB, .byte)] U ∧ va_D (fun _ => True) [(h0, .inr (12, mo v_r (upd (mi0 sd) 0 0) (fun _ => 0)))])) (va_Qi (fun (r : Int32) (_ : Unit) => r = 1) (fun (_ : Unit) t => va_P (dC, dI) classes [(h0, .inr (12, mo v_r (upd (upd (upd (upd (upd (upd (mi0 sd) 0 0) 75 0) 76 ((-1))) 81 0) 84 0) 85 0) (fun _ => 0)))] t.heap ∧ va_K (dC, dI) classes [(cI, .int), (cJ, .long), (cB, .byte)] t ∧ va_D (va_A [(h0, .inr (12, mo v_r (upd (mi0 sd) 0 0) (fun _ => 0)))] sz) [(h0, .inr (12, mo v_r (upd (upd (upd (upd (upd (upd (mi0 sd) 0 0) 75 0) 76 ((-1))) 81 0) 84 0) 85 0) (fun _ => 0)))]) (va_A [(h0, .inr (12, mo v_r (upd (mi0 sd) 0 0) (fun _ => 0)))] sz)) 0 0 (va_A [(h0, .inr (12, mo v_r (upd (mi0 sd) 0 0) (fun _ => 0)))] sz) := by
  refine Met.ofW (cc := b_Model_scan) (maxL := 10) (ret := (some .boolean)) (by decide) rfl ?_
  intro p e s m args below meth c s₁ B hml hv
  obtain ⟨rfl, hsz, hP, hK, hD0⟩ := hv
  have hx := B.exec
  have hb := B.bytes
  have hr := B.returns
  have hts := atoms_spec (ws := w_Model_scan) B.pre
  have htt : ∀ w ∈ tw_T, w.before _ s = true := fun w h => hts w (List.mem_cons_of_mem _ h)
  have hown : s.vm.findClass R_Model = some m.cls := findClass_of_methodNamed B.named
  have hlocks := B.notSynchronized
  subst hsz
  have hD := hD0.self (sz := s.heap.size)
  generalize hAe : va_A [(h0, .inr (12, mo v_r (upd (mi0 sd) 0 0) (fun _ => 0)))] s.heap.size = A at hD ⊢
  have hA : ∀ q : Nat, s.heap.size ≤ q → A q := fun q h => by rw [← hAe]; exact Or.inr h
  have hS : va_S A s.heap s.heap [] := va_S.rf
  have hP : va_P (dC, dI) classes [(h0, .inr (12, mo v_r (upd (mi0 sd) 0 0) (fun _ => 0)))] s.heap := hP
  have hl := lv_entry ([.ref h0, .int 0]) (n := 10) (Nat.le_of_ble_eq_true rfl)
  rw [lg_entry_eq]
  generalize (lg_sl ([.ref h0, .int 0]) ++ List.replicate (10 - (lg_sl ([.ref h0, .int 0])).length) Slot.unset).toArray = ls at hl ⊢
  have hl : lv_has ls 10 [(0, .ref h0), (1, .int 0)] := hl
  refine lv_aload_n hx hb d_Model_scan_0 rfl (lv_at hl 0 rfl) ?_
  refine va_get (D := (dC, dI)) (ci := 12) (v := .int 0) (C := R_Model) (T := F_Model) (N := 127) hx hb htt iw_Model hown hK hP 0 rfl rfl 74 (by decide) (htt _ lk_Model_409) (fun _ h9 => h9) rfl d_Model_scan_1 ?_
  refine lv_istore_n (lv' := [(2, .int 0), (0, .ref h0), (1, .int 0)]) hx hb d_Model_scan_4 rfl hl (by decide) rfl (fun ls hl => ?_)
  refine lv_iconst (v := 0) hx hb d_Model_scan_5 (by decide) ?_
  refine lv_istore_n (lv' := [(3, .int 0), (2, .int 0), (0, .ref h0), (1, .int 0)]) hx hb d_Model_scan_6 rfl hl (by decide) rfl (fun ls hl => ?_)
  refine lv_iconst (v := 0) hx hb d_Model_scan_7 (by decide) ?_
  refine lv_istore (lv' := [(4, .int 0), (3, .int 0), (2, .int 0), (0, .ref h0), (1, .int 0)]) hx hb d_Model_scan_8 hl (by decide) rfl (fun ls hl => ?_)
  refine lv_aload_n hx hb d_Model_scan_10 rfl (lv_at hl 3 rfl) ?_
  refine lv_iconst (v := 0) hx hb d_Model_scan_11 (by decide) ?_
  refine va_put (D := (dC, dI)) (ci := 12) (v := .int 0) (ty := .int) (C := R_Model) (T := F_Model) (N := 127) hx hb htt iw_Model t_Model t_Model_ok n_Model hown hK hP hD hS 0 rfl rfl 75 (by decide) (htt _ lk_Model_416) (fun _ h9 => h9) rfl (by decide +kernel) rfl rfl (Nat.le_of_ble_eq_true rfl) d_Model_scan_12 (fun H locs hP hD hS => ?_)
  have hP : va_P (dC, dI) classes [(h0, .inr (12, mo v_r (upd (upd (mi0 sd) 0 0) 75 0) (fun _ => 0)))] H := hP
  have hD : va_D A [(h0, .inr (12, mo v_r (upd (upd (mi0 sd) 0 0) 75 0) (fun _ => 0)))] := hD
  refine lv_aload_n hx hb d_Model_scan_15 rfl (lv_at hl 3 rfl) ?_
  refine lv_iconst (v := -1) hx hb d_Model_scan_16 (by decide) ?_
  refine va_put (D := (dC, dI)) (ci := 12) (v := .int ((-1))) (ty := .int) (C := R_Model) (T := F_Model) (N := 127) hx hb htt iw_Model t_Model t_Model_ok n_Model hown hK hP hD hS 0 rfl rfl 76 (by decide) (htt _ lk_Model_264) (fun _ h9 => h9) rfl (by decide +kernel) rfl rfl (Nat.le_of_ble_eq_true rfl) d_Model_scan_17 (fun H locs hP hD hS => ?_)
  have hP : va_P (dC, dI) classes [(h0, .inr (12, mo v_r (upd (upd (upd (mi0 sd) 0 0) 75 0) 76 ((-1))) (fun _ => 0)))] H := hP
  have hD : va_D A [(h0, .inr (12, mo v_r (upd (upd (upd (mi0 sd) 0 0) 75 0) 76 ((-1))) (fun _ => 0)))] := hD
  refine lv_aload_n hx hb d_Model_scan_20 rfl (lv_at hl 3 rfl) ?_
  refine lv_iconst (v := 0) hx hb d_Model_scan_21 (by decide) ?_
  refine va_put (D := (dC, dI)) (ci := 12) (v := .int 0) (ty := .int) (C := R_Model) (T := F_Model) (N := 127) hx hb htt iw_Model t_Model t_Model_ok n_Model hown hK hP hD hS 0 rfl rfl 81 (by decide) (htt _ lk_Model_425) (fun _ h9 => h9) rfl (by decide +kernel) rfl rfl (Nat.le_of_ble_eq_true rfl) d_Model_scan_22 (fun H locs hP hD hS => ?_)
  have hP : va_P (dC, dI) classes [(h0, .inr (12, mo v_r (upd (upd (upd (upd (mi0 sd) 0 0) 75 0) 76 ((-1))) 81 0) (fun _ => 0)))] H := hP
  have hD : va_D A [(h0, .inr (12, mo v_r (upd (upd (upd (upd (mi0 sd) 0 0) 75 0) 76 ((-1))) 81 0) (fun _ => 0)))] := hD
  refine lv_aload_n hx hb d_Model_scan_25 rfl (lv_at hl 3 rfl) ?_
  refine lv_iconst (v := 0) hx hb d_Model_scan_26 (by decide) ?_
  refine va_put (D := (dC, dI)) (ci := 12) (v := .int 0) (ty := .int) (C := R_Model) (T := F_Model) (N := 127) hx hb htt iw_Model t_Model t_Model_ok n_Model hown hK hP hD hS 0 rfl rfl 84 (by decide) (htt _ lk_Model_428) (fun _ h9 => h9) rfl (by decide +kernel) rfl rfl (Nat.le_of_ble_eq_true rfl) d_Model_scan_27 (fun H locs hP hD hS => ?_)
  have hP : va_P (dC, dI) classes [(h0, .inr (12, mo v_r (upd (upd (upd (upd (upd (mi0 sd) 0 0) 75 0) 76 ((-1))) 81 0) 84 0) (fun _ => 0)))] H := hP
  have hD : va_D A [(h0, .inr (12, mo v_r (upd (upd (upd (upd (upd (mi0 sd) 0 0) 75 0) 76 ((-1))) 81 0) 84 0) (fun _ => 0)))] := hD
  refine lv_aload_n hx hb d_Model_scan_30 rfl (lv_at hl 3 rfl) ?_
  refine lv_iconst (v := 0) hx hb d_Model_scan_31 (by decide) ?_
  refine va_put (D := (dC, dI)) (ci := 12) (v := .int 0) (ty := .int) (C := R_Model) (T := F_Model) (N := 127) hx hb htt iw_Model t_Model t_Model_ok n_Model hown hK hP hD hS 0 rfl rfl 85 (by decide) (htt _ lk_Model_431) (fun _ h9 => h9) rfl (by decide +kernel) rfl rfl (Nat.le_of_ble_eq_true rfl) d_Model_scan_32 (fun H locs hP hD hS => ?_)
  have hP : va_P (dC, dI) classes [(h0, .inr (12, mo v_r (upd (upd (upd (upd (upd (upd (mi0 sd) 0 0) 75 0) 76 ((-1))) 81 0) 84 0) 85 0) (fun _ => 0)))] H := hP
  have hD : va_D A [(h0, .inr (12, mo v_r (upd (upd (upd (upd (upd (upd (mi0 sd) 0 0) 75 0) 76 ((-1))) 81 0) 84 0) 85 0) (fun _ => 0)))] := hD
  refine lv_iload hx hb d_Model_scan_35 (lv_at hl 0 rfl) ?_
  refine lv_iload_n hx hb d_Model_scan_37 rfl (lv_at hl 2 rfl) ?_
  refine lv_icmp_ge (tgt := 647) hx hb d_Model_scan_38 (by decide) (fun c_1 => ?_) (fun c_1 => ?_)
  · refine lv_aload_n hx hb d_Model_scan_647 rfl (lv_at hl 3 rfl) ?_
    refine va_get (D := (dC, dI)) (ci := 12) (v := .int 0) (C := R_Model) (T := F_Model) (N := 127) hx hb htt iw_Model hown hK hP 0 rfl rfl 75 (by decide) (htt _ lk_Model_416) (fun _ h9 => h9) rfl d_Model_scan_648 ?_
    refine lv_if_ne (tgt := 664) hx hb d_Model_scan_651 (by decide) (fun c_2 => ?_) (fun c_2 => ?_)
    · exact absurd c_2 (by decide)
    · refine lv_iload_n hx hb d_Model_scan_654 rfl (lv_at hl 1 rfl) ?_
      refine lv_if_le (tgt := 664) hx hb d_Model_scan_655 (by decide) (fun c_3 => ?_) (fun c_3 => ?_)
      · refine lv_iload_n hx hb d_Model_scan_664 rfl (lv_at hl 4 rfl) ?_
        refine lv_if_eq (tgt := 708) hx hb d_Model_scan_665 (by decide) (fun c_4 => ?_) (fun c_4 => ?_)
        · refine lv_aload_n hx hb d_Model_scan_708 rfl (lv_at hl 3 rfl) ?_
          refine va_get (D := (dC, dI)) (ci := 12) (v := .int 0) (C := R_Model) (T := F_Model) (N := 127) hx hb htt iw_Model hown hK hP 0 rfl rfl 75 (by decide) (htt _ lk_Model_416) (fun _ h9 => h9) rfl d_Model_scan_709 ?_
          refine lv_if_ne (tgt := 719) hx hb d_Model_scan_712 (by decide) (fun c_5 => ?_) (fun c_5 => ?_)
          · exact absurd c_5 (by decide)
          · refine lv_iconst (v := 1) hx hb d_Model_scan_715 (by decide) ?_
            refine lv_goto (tgt := 720) hx hb d_Model_scan_716 (by decide) ?_
            have hP9 := hP.sub (ws' := [(h0, .inr (12, mo v_r (upd (upd (upd (upd (upd (upd (mi0 sd) 0 0) 75 0) 76 ((-1))) 81 0) 84 0) 85 0) (fun _ => 0)))]) [0] rfl
            have hD9 := hD.sub (ws' := [(h0, .inr (12, mo v_r (upd (upd (upd (upd (upd (upd (mi0 sd) 0 0) 75 0) 76 ((-1))) 81 0) 84 0) 85 0) (fun _ => 0)))]) [0] (by decide) rfl
            exact W.zret (v := 1) hx hb hr (by decide) (fun t9 ht hW => ⟨⟨1, (), rfl, rfl, by rw [ht]; exact hP9, va_K.moved hW.alike hK, hD9⟩, hS.F ht⟩) hS.2.2 d_Model_scan_720
        · exact absurd c_4 (by decide)
      · exact absurd c_3 (by decide)
  · exact absurd c_1 (by decide)

set_option maxHeartbeats 4000000 in
set_option maxRecDepth 100000 in
theorem c_Model_newList_c1 (l : Launch) (dC : Nat → ClassId) (dI : Nat → Nat → Nat) (sz : Nat) (h0 : Nat) (v_r : Nat → Nat) (cI : ClassId) (cJ : ClassId) (cB : ClassId) (sd : Int32)  : Met l y_Model_newList w_Model_newList ({ frames := 1, cells := 0, slots := 0, locals := 20 }) (va_Pc [.ref h0, .int 0] (fun U => U.heap.size = sz ∧ va_P (dC, dI) classes [(h0, .inr (12, mo v_r (upd (upd (upd (upd (upd (upd (upd (mi0 sd) 0 0) 75 0) 76 ((-1))) 81 0) 84 0) 85 0) 74 0) (fun _ => 0))), (v_r 12, .inl (cI, 90000, .inl (fun _ => 0))), (v_r 13, .inl (cI, 90000, .inl (fun _ => 0))), (v_r 14, .inl (cI, 90000, .inl (fun _ => 0)))] U.heap ∧ va_K (dC, dI) classes [(cI, .int), (cJ, .long), (cB, .byte)] U ∧ va_D (fun _ => True) [(h0, .inr (12, mo v_r (upd (upd (upd (upd (upd (upd (upd (mi0 sd) 0 0) 75 0) 76 ((-1))) 81 0) 84 0) 85 0) 74 0) (fun _ => 0))), (v_r 12, .inl (cI, 90000, .inl (fun _ => 0))), (v_r 13, .inl (cI, 90000, .inl (fun _ => 0))), (v_r 14, .inl (cI, 90000, .inl (fun _ => 0)))])) (va_Ql (fun (r : Int64) (_ : Unit) => r = 2) (fun (_ : Unit) t => va_P (dC, dI) classes [(h0, .inr (12, mo v_r (upd (upd (upd (upd (upd (upd (upd (upd (mi0 sd) 0 0) 75 0) 76 ((-1))) 81 0) 84 0) 85 0) 74 0) 21 1) (fun _ => 0))), (v_r 12, .inl (cI, 90000, .inl (upd (fun _ => 0) (0 : Int32).toNatClampNeg 0))), (v_r 13, .inl (cI, 90000, .inl (upd (fun _ => 0) (0 : Int32).toNatClampNeg 0))), (v_r 14, .inl (cI, 90000, .inl (upd (fun _ => 0) (0 : Int32).toNatClampNeg 1)))] t.heap ∧ va_K (dC, dI) classes [(cI, .int), (cJ, .long), (cB, .byte)] t ∧ va_D (va_A [(h0, .inr (12, mo v_r (upd (upd (upd (upd (upd (upd (upd (mi0 sd) 0 0) 75 0) 76 ((-1))) 81 0) 84 0) 85 0) 74 0) (fun _ => 0))), (v_r 12, .inl (cI, 90000, .inl (fun _ => 0))), (v_r 13, .inl (cI, 90000, .inl (fun _ => 0))), (v_r 14, .inl (cI, 90000, .inl (fun _ => 0)))] sz) [(h0, .inr (12, mo v_r (upd (upd (upd (upd (upd (upd (upd (upd (mi0 sd) 0 0) 75 0) 76 ((-1))) 81 0) 84 0) 85 0) 74 0) 21 1) (fun _ => 0))), (v_r 12, .inl (cI, 90000, .inl (upd (fun _ => 0) (0 : Int32).toNatClampNeg 0))), (v_r 13, .inl (cI, 90000, .inl (upd (fun _ => 0) (0 : Int32).toNatClampNeg 0))), (v_r 14, .inl (cI, 90000, .inl (upd (fun _ => 0) (0 : Int32).toNatClampNeg 1)))]) (va_A [(h0, .inr (12, mo v_r (upd (upd (upd (upd (upd (upd (upd (mi0 sd) 0 0) 75 0) 76 ((-1))) 81 0) 84 0) 85 0) 74 0) (fun _ => 0))), (v_r 12, .inl (cI, 90000, .inl (fun _ => 0))), (v_r 13, .inl (cI, 90000, .inl (fun _ => 0))), (v_r 14, .inl (cI, 90000, .inl (fun _ => 0)))] sz)) 0 0 (va_A [(h0, .inr (12, mo v_r (upd (upd (upd (upd (upd (upd (upd (mi0 sd) 0 0) 75 0) 76 ((-1))) 81 0) 84 0) 85 0) 74 0) (fun _ => 0))), (v_r 12, .inl (cI, 90000, .inl (fun _ => 0))), (v_r 13, .inl (cI, 90000, .inl (fun _ => 0))), (v_r 14, .inl (cI, 90000, .inl (fun _ => 0)))] sz) := by
  refine Met.ofW (cc := b_Model_newList) (maxL := 4) (ret := (some .long)) (by decide) rfl ?_
  intro p e s m args below meth c s₁ B hml hv
  obtain ⟨rfl, hsz, hP, hK, hD0⟩ := hv
  have hx := B.exec
  have hb := B.bytes
  have hr := B.returns
  have hts := atoms_spec (ws := w_Model_newList) B.pre
  have htt : ∀ w ∈ tw_T, w.before _ s = true := fun w h => hts w (List.mem_cons_of_mem _ h)
  have hown : s.vm.findClass R_Model = some m.cls := findClass_of_methodNamed B.named
  have hlocks := B.notSynchronized
  subst hsz
  have hD := hD0.self (sz := s.heap.size)
  generalize hAe : va_A [(h0, .inr (12, mo v_r (upd (upd (upd (upd (upd (upd (upd (mi0 sd) 0 0) 75 0) 76 ((-1))) 81 0) 84 0) 85 0) 74 0) (fun _ => 0))), (v_r 12, .inl (cI, 90000, .inl (fun _ => 0))), (v_r 13, .inl (cI, 90000, .inl (fun _ => 0))), (v_r 14, .inl (cI, 90000, .inl (fun _ => 0)))] s.heap.size = A at hD ⊢
  have hA : ∀ q : Nat, s.heap.size ≤ q → A q := fun q h => by rw [← hAe]; exact Or.inr h
  have hS : va_S A s.heap s.heap [] := va_S.rf
  have hP : va_P (dC, dI) classes [(h0, .inr (12, mo v_r (upd (upd (upd (upd (upd (upd (upd (mi0 sd) 0 0) 75 0) 76 ((-1))) 81 0) 84 0) 85 0) 74 0) (fun _ => 0))), (v_r 12, .inl (cI, 90000, .inl (fun _ => 0))), (v_r 13, .inl (cI, 90000, .inl (fun _ => 0))), (v_r 14, .inl (cI, 90000, .inl (fun _ => 0)))] s.heap := hP
  have hl := lv_entry ([.ref h0, .int 0]) (n := 4) (Nat.le_of_ble_eq_true rfl)
  rw [lg_entry_eq]
  generalize (lg_sl ([.ref h0, .int 0]) ++ List.replicate (4 - (lg_sl ([.ref h0, .int 0])).length) Slot.unset).toArray = ls at hl ⊢
  have hl : lv_has ls 4 [(0, .ref h0), (1, .int 0)] := hl
  refine lv_iconst (v := 1) hx hb d_Model_newList_0 (by decide) ?_
  refine lv_istore_n (lv' := [(2, .int 1), (0, .ref h0), (1, .int 0)]) hx hb d_Model_newList_1 rfl hl (by decide) rfl (fun ls hl => ?_)
  refine lv_aload_n hx hb d_Model_newList_2 rfl (lv_at hl 1 rfl) ?_
  refine va_get (D := (dC, dI)) (ci := 12) (v := .int 0) (C := R_Model) (T := F_Model) (N := 127) hx hb htt iw_Model hown hK hP 0 rfl rfl 20 (by decide) (htt _ lk_Model_32) (fun _ h9 => h9) rfl d_Model_newList_3 ?_
  refine lv_iload_n hx hb d_Model_newList_6 rfl (lv_at hl 2 rfl) ?_
  refine lv_isub hx hb d_Model_newList_7 ?_
  refine lv_topi (fun x_1 ex_1 => ?_)
  obtain rfl : x_1 = 0 := by rw [ex_1]; decide
  clear ex_1
  refine lv_istore_n (lv' := [(3, .int 0), (2, .int 1), (0, .ref h0), (1, .int 0)]) hx hb d_Model_newList_8 rfl hl (by decide) rfl (fun ls hl => ?_)
  refine lv_iload_n hx hb d_Model_newList_9 rfl (lv_at hl 0 rfl) ?_
  refine lv_aload_n hx hb d_Model_newList_10 rfl (lv_at hl 2 rfl) ?_
  refine va_get (D := (dC, dI)) (ci := 12) (v := .int 0) (C := R_Model) (T := F_Model) (N := 127) hx hb htt iw_Model hown hK hP 0 rfl rfl 20 (by decide) (htt _ lk_Model_32) (fun _ h9 => h9) rfl d_Model_newList_11 ?_
  refine lv_icmp_ge (tgt := 36) hx hb d_Model_newList_14 (by decide) (fun c_2 => ?_) (fun c_2 => ?_)
  · refine lv_aload_n hx hb d_Model_newList_36 rfl (lv_at hl 2 rfl) ?_
    refine va_get (D := (dC, dI)) (ci := 12) (v := .ref (v_r 12)) (C := R_Model) (T := F_Model) (N := 127) hx hb htt iw_Model hown hK hP 0 rfl rfl 12 (by decide) (htt _ lk_Model_41) (fun _ h9 => h9) rfl d_Model_newList_37 ?_
    refine lv_aload_n hx hb d_Model_newList_40 rfl (lv_at hl 2 rfl) ?_
    refine va_get (D := (dC, dI)) (ci := 12) (v := .int 0) (C := R_Model) (T := F_Model) (N := 127) hx hb htt iw_Model hown hK hP 0 rfl rfl 21 (by decide) (htt _ lk_Model_44) (fun _ h9 => h9) rfl d_Model_newList_41 ?_
    refine lv_aload_n hx hb d_Model_newList_44 rfl (lv_at hl 2 rfl) ?_
    refine va_get (D := (dC, dI)) (ci := 12) (v := .int 0) (C := R_Model) (T := F_Model) (N := 127) hx hb htt iw_Model hown hK hP 0 rfl rfl 20 (by decide) (htt _ lk_Model_32) (fun _ h9 => h9) rfl d_Model_newList_45 ?_
    refine lv_iload_n hx hb d_Model_newList_48 rfl (lv_at hl 3 rfl) ?_
    refine lv_isub hx hb d_Model_newList_49 ?_
    refine lv_topi (fun x_3 ex_3 => ?_)
    obtain rfl : x_3 = 0 := by rw [ex_3]; decide
    clear ex_3
    have h_4 : vp_in 0 90000 := vp_in_iff.mpr (by decide +kernel)
    refine va_iast hx hb hK hP hD hS 1 0 rfl rfl h_4 d_Model_newList_50 (fun H locs hP hD hS => ?_)
    have hP : va_P (dC, dI) classes [(h0, .inr (12, mo v_r (upd (upd (upd (upd (upd (upd (upd (mi0 sd) 0 0) 75 0) 76 ((-1))) 81 0) 84 0) 85 0) 74 0) (fun _ => 0))), (v_r 12, .inl (cI, 90000, .inl (upd (fun _ => 0) (0 : Int32).toNatClampNeg 0))), (v_r 13, .inl (cI, 90000, .inl (fun _ => 0))), (v_r 14, .inl (cI, 90000, .inl (fun _ => 0)))] H := hP
    have hD : va_D A [(h0, .inr (12, mo v_r (upd (upd (upd (upd (upd (upd (upd (mi0 sd) 0 0) 75 0) 76 ((-1))) 81 0) 84 0) 85 0) 74 0) (fun _ => 0))), (v_r 12, .inl (cI, 90000, .inl (upd (fun _ => 0) (0 : Int32).toNatClampNeg 0))), (v_r 13, .inl (cI, 90000, .inl (fun _ => 0))), (v_r 14, .inl (cI, 90000, .inl (fun _ => 0)))] := hD
    refine lv_aload_n hx hb d_Model_newList_51 rfl (lv_at hl 2 rfl) ?_
    refine va_get (D := (dC, dI)) (ci := 12) (v := .ref (v_r 13)) (C := R_Model) (T := F_Model) (N := 127) hx hb htt iw_Model hown hK hP 0 rfl rfl 13 (by decide) (htt _ lk_Model_47) (fun _ h9 => h9) rfl d_Model_newList_52 ?_
    refine lv_aload_n hx hb d_Model_newList_55 rfl (lv_at hl 2 rfl) ?_
    refine va_get (D := (dC, dI)) (ci := 12) (v := .int 0) (C := R_Model) (T := F_Model) (N := 127) hx hb htt iw_Model hown hK hP 0 rfl rfl 21 (by decide) (htt _ lk_Model_44) (fun _ h9 => h9) rfl d_Model_newList_56 ?_
    refine lv_iload_n hx hb d_Model_newList_59 rfl (lv_at hl 3 rfl) ?_
    have h_5 : vp_in 0 90000 := vp_in_iff.mpr (by decide +kernel)
    refine va_iast hx hb hK hP hD hS 2 0 rfl rfl h_5 d_Model_newList_60 (fun H locs hP hD hS => ?_)
    have hP : va_P (dC, dI) classes [(h0, .inr (12, mo v_r (upd (upd (upd (upd (upd (upd (upd (mi0 sd) 0 0) 75 0) 76 ((-1))) 81 0) 84 0) 85 0) 74 0) (fun _ => 0))), (v_r 12, .inl (cI, 90000, .inl (upd (fun _ => 0) (0 : Int32).toNatClampNeg 0))), (v_r 13, .inl (cI, 90000, .inl (upd (fun _ => 0) (0 : Int32).toNatClampNeg 0))), (v_r 14, .inl (cI, 90000, .inl (fun _ => 0)))] H := hP
    have hD : va_D A [(h0, .inr (12, mo v_r (upd (upd (upd (upd (upd (upd (upd (mi0 sd) 0 0) 75 0) 76 ((-1))) 81 0) 84 0) 85 0) 74 0) (fun _ => 0))), (v_r 12, .inl (cI, 90000, .inl (upd (fun _ => 0) (0 : Int32).toNatClampNeg 0))), (v_r 13, .inl (cI, 90000, .inl (upd (fun _ => 0) (0 : Int32).toNatClampNeg 0))), (v_r 14, .inl (cI, 90000, .inl (fun _ => 0)))] := hD
    refine lv_aload_n hx hb d_Model_newList_61 rfl (lv_at hl 2 rfl) ?_
    refine va_get (D := (dC, dI)) (ci := 12) (v := .ref (v_r 14)) (C := R_Model) (T := F_Model) (N := 127) hx hb htt iw_Model hown hK hP 0 rfl rfl 14 (by decide) (htt _ lk_Model_50) (fun _ h9 => h9) rfl d_Model_newList_62 ?_
    refine lv_aload_n hx hb d_Model_newList_65 rfl (lv_at hl 2 rfl) ?_
    refine va_get (D := (dC, dI)) (ci := 12) (v := .int 0) (C := R_Model) (T := F_Model) (N := 127) hx hb htt iw_Model hown hK hP 0 rfl rfl 21 (by decide) (htt _ lk_Model_44) (fun _ h9 => h9) rfl d_Model_newList_66 ?_
    refine lv_iload_n hx hb d_Model_newList_69 rfl (lv_at hl 1 rfl) ?_
    have h_6 : vp_in 0 90000 := vp_in_iff.mpr (by decide +kernel)
    refine va_iast hx hb hK hP hD hS 3 0 rfl rfl h_6 d_Model_newList_70 (fun H locs hP hD hS => ?_)
    have hP : va_P (dC, dI) classes [(h0, .inr (12, mo v_r (upd (upd (upd (upd (upd (upd (upd (mi0 sd) 0 0) 75 0) 76 ((-1))) 81 0) 84 0) 85 0) 74 0) (fun _ => 0))), (v_r 12, .inl (cI, 90000, .inl (upd (fun _ => 0) (0 : Int32).toNatClampNeg 0))), (v_r 13, .inl (cI, 90000, .inl (upd (fun _ => 0) (0 : Int32).toNatClampNeg 0))), (v_r 14, .inl (cI, 90000, .inl (upd (fun _ => 0) (0 : Int32).toNatClampNeg 1)))] H := hP
    have hD : va_D A [(h0, .inr (12, mo v_r (upd (upd (upd (upd (upd (upd (upd (mi0 sd) 0 0) 75 0) 76 ((-1))) 81 0) 84 0) 85 0) 74 0) (fun _ => 0))), (v_r 12, .inl (cI, 90000, .inl (upd (fun _ => 0) (0 : Int32).toNatClampNeg 0))), (v_r 13, .inl (cI, 90000, .inl (upd (fun _ => 0) (0 : Int32).toNatClampNeg 0))), (v_r 14, .inl (cI, 90000, .inl (upd (fun _ => 0) (0 : Int32).toNatClampNeg 1)))] := hD
    refine lv_aload_n hx hb d_Model_newList_71 rfl (lv_at hl 2 rfl) ?_
    refine lv_dup hx hb d_Model_newList_72 rfl ?_
    refine va_get (D := (dC, dI)) (ci := 12) (v := .int 0) (C := R_Model) (T := F_Model) (N := 127) hx hb htt iw_Model hown hK hP 0 rfl rfl 21 (by decide) (htt _ lk_Model_44) (fun _ h9 => h9) rfl d_Model_newList_73 ?_
    refine lv_iconst (v := 1) hx hb d_Model_newList_76 (by decide) ?_
    refine lv_iadd hx hb d_Model_newList_77 ?_
    refine lv_topi (fun x_7 ex_7 => ?_)
    obtain rfl : x_7 = 1 := by rw [ex_7]; decide
    clear ex_7
    refine va_put (D := (dC, dI)) (ci := 12) (v := .int 1) (ty := .int) (C := R_Model) (T := F_Model) (N := 127) hx hb htt iw_Model t_Model t_Model_ok n_Model hown hK hP hD hS 0 rfl rfl 21 (by decide) (htt _ lk_Model_44) (fun _ h9 => h9) rfl (by decide +kernel) rfl rfl (Nat.le_of_ble_eq_true rfl) d_Model_newList_78 (fun H locs hP hD hS => ?_)
    have hP : va_P (dC, dI) classes [(h0, .inr (12, mo v_r (upd (upd (upd (upd (upd (upd (upd (upd (mi0 sd) 0 0) 75 0) 76 ((-1))) 81 0) 84 0) 85 0) 74 0) 21 1) (fun _ => 0))), (v_r 12, .inl (cI, 90000, .inl (upd (fun _ => 0) (0 : Int32).toNatClampNeg 0))), (v_r 13, .inl (cI, 90000, .inl (upd (fun _ => 0) (0 : Int32).toNatClampNeg 0))), (v_r 14, .inl (cI, 90000, .inl (upd (fun _ => 0) (0 : Int32).toNatClampNeg 1)))] H := hP
    have hD : va_D A [(h0, .inr (12, mo v_r (upd (upd (upd (upd (upd (upd (upd (upd (mi0 sd) 0 0) 75 0) 76 ((-1))) 81 0) 84 0) 85 0) 74 0) 21 1) (fun _ => 0))), (v_r 12, .inl (cI, 90000, .inl (upd (fun _ => 0) (0 : Int32).toNatClampNeg 0))), (v_r 13, .inl (cI, 90000, .inl (upd (fun _ => 0) (0 : Int32).toNatClampNeg 0))), (v_r 14, .inl (cI, 90000, .inl (upd (fun _ => 0) (0 : Int32).toNatClampNeg 1)))] := hD
    refine lv_aload_n hx hb d_Model_newList_81 rfl (lv_at hl 2 rfl) ?_
    refine va_get (D := (dC, dI)) (ci := 12) (v := .int 1) (C := R_Model) (T := F_Model) (N := 127) hx hb htt iw_Model hown hK hP 0 rfl rfl 21 (by decide) (htt _ lk_Model_44) (fun _ h9 => h9) rfl d_Model_newList_82 ?_
    refine lv_iconst (v := 1) hx hb d_Model_newList_85 (by decide) ?_
    refine lv_isub hx hb d_Model_newList_86 ?_
    refine lv_topi (fun x_8 ex_8 => ?_)
    obtain rfl : x_8 = 0 := by rw [ex_8]; decide
    clear ex_8
    have hPc := hP.sub (ws' := []) [] rfl
    have hDc := hD.sub (ws' := []) [] (by decide) rfl
    have hKc := hK.sub (tys' := []) [] rfl
    have hFc := va_free (wc := []) hD hS hA [] rfl
    refine va_calll (va_runS (As := [.int 0]) (rest := []) ⟨hx, hb, hml, hown, hts⟩ (c_Model_listValue l dC dI H.size 0) (va_cwS 1 hts (tw_GS tw_cons cw_Model_listValue lk_Model_53 st_Model_listValue ini_Model) rfl rfl rfl (by decide +kernel) ⟨Nat.le_of_ble_eq_true rfl, Nat.le_of_ble_eq_true rfl⟩) ⟨fun a U g mk q => by obtain ⟨q0, q1, qP, qK, qD⟩ := q; exact ⟨q0, q1, qP, va_K.moved (u := U) (U := U.calling g mk a) (Vm.Alike.refl U.vm) qK, qD⟩, fun U hU hW => ⟨rfl, by rw [hU], by rw [hU]; exact hPc, va_K.moved hW.alike hKc, hDc.weaken (fun _ _ _ _ => trivial)⟩⟩ rfl rfl hl.1 rfl (lv_room (Nat.le_of_ble_eq_true rfl)) d_Model_newList_87 ⟨Nat.le_of_ble_eq_true rfl, Nat.le_of_ble_eq_true rfl⟩) hS (fun q _ h => hFc q h) hFc (fun r9 u9 t9 H1 locs ht hvm e9 hB hz1 hk1 hS => ?_)
    obtain ⟨hP1, hK1, hD1⟩ := hB
    rw [ht] at hP1
    obtain ⟨hP, hD⟩ := va_join (wr := [(h0, .inr (12, mo v_r (upd (upd (upd (upd (upd (upd (upd (upd (mi0 sd) 0 0) 75 0) 76 ((-1))) 81 0) 84 0) 85 0) 74 0) 21 1) (fun _ => 0))), (v_r 12, .inl (cI, 90000, .inl (upd (fun _ => 0) (0 : Int32).toNatClampNeg 0))), (v_r 13, .inl (cI, 90000, .inl (upd (fun _ => 0) (0 : Int32).toNatClampNeg 0))), (v_r 14, .inl (cI, 90000, .inl (upd (fun _ => 0) (0 : Int32).toNatClampNeg 1)))]) (w1 := []) hP hD [] [0, 1, 2, 3] rfl rfl (by decide) (by decide) hk1 hFc hP1 hD1
    subst e9
    clear hP1 hD1 hK1 hvm hz1 hk1 hFc hKc hDc hPc
    subst ht
    generalize t9.heap = H at hP hS ⊢
    have hP : va_P (dC, dI) classes [(h0, .inr (12, mo v_r (upd (upd (upd (upd (upd (upd (upd (upd (mi0 sd) 0 0) 75 0) 76 ((-1))) 81 0) 84 0) 85 0) 74 0) 21 1) (fun _ => 0))), (v_r 12, .inl (cI, 90000, .inl (upd (fun _ => 0) (0 : Int32).toNatClampNeg 0))), (v_r 13, .inl (cI, 90000, .inl (upd (fun _ => 0) (0 : Int32).toNatClampNeg 0))), (v_r 14, .inl (cI, 90000, .inl (upd (fun _ => 0) (0 : Int32).toNatClampNeg 1)))] H := hP
    have hD : va_D A [(h0, .inr (12, mo v_r (upd (upd (upd (upd (upd (upd (upd (upd (mi0 sd) 0 0) 75 0) 76 ((-1))) 81 0) 84 0) 85 0) 74 0) 21 1) (fun _ => 0))), (v_r 12, .inl (cI, 90000, .inl (upd (fun _ => 0) (0 : Int32).toNatClampNeg 0))), (v_r 13, .inl (cI, 90000, .inl (upd (fun _ => 0) (0 : Int32).toNatClampNeg 0))), (v_r 14, .inl (cI, 90000, .inl (upd (fun _ => 0) (0 : Int32).toNatClampNeg 1)))] := hD
    refine lv_topl (fun x_9 ex_9 => ?_)
    obtain rfl : x_9 = 2 := by rw [ex_9]; decide
    clear ex_9
    have hP9 := hP.sub (ws' := [(h0, .inr (12, mo v_r (upd (upd (upd (upd (upd (upd (upd (upd (mi0 sd) 0 0) 75 0) 76 ((-1))) 81 0) 84 0) 85 0) 74 0) 21 1) (fun _ => 0))), (v_r 12, .inl (cI, 90000, .inl (upd (fun _ => 0) (0 : Int32).toNatClampNeg 0))), (v_r 13, .inl (cI, 90000, .inl (upd (fun _ => 0) (0 : Int32).toNatClampNeg 0))), (v_r 14, .inl (cI, 90000, .inl (upd (fun _ => 0) (0 : Int32).toNatClampNeg 1)))]) [0, 1, 2, 3] rfl
    have hD9 := hD.sub (ws' := [(h0, .inr (12, mo v_r (upd (upd (upd (upd (upd (upd (upd (upd (mi0 sd) 0 0) 75 0) 76 ((-1))) 81 0) 84 0) 85 0) 74 0) 21 1) (fun _ => 0))), (v_r 12, .inl (cI, 90000, .inl (upd (fun _ => 0) (0 : Int32).toNatClampNeg 0))), (v_r 13, .inl (cI, 90000, .inl (upd (fun _ => 0) (0 : Int32).toNatClampNeg 0))), (v_r 14, .inl (cI, 90000, .inl (upd (fun _ => 0) (0 : Int32).toNatClampNeg 1)))]) [0, 1, 2, 3] (by decide) rfl
    exact W.lret (v := 2) hx hb hr (fun t9 ht hW => ⟨⟨2, (), rfl, rfl, by rw [ht]; exact hP9, va_K.moved hW.alike hK, hD9⟩, hS.F ht⟩) hS.2.2 d_Model_newList_90
  · exact absurd c_2 (by decide)

set_option maxHeartbeats 4000000 in
set_option maxRecDepth 100000 in
theorem c_Model_within_c1 (l : Launch) (dC : Nat → ClassId) (dI : Nat → Nat → Nat) (sz : Nat) (h0 : Nat) (v_r : Nat → Nat) (cI : ClassId) (cJ : ClassId) (cB : ClassId) (sd : Int32)  : Met l y_Model_within w_Model_within ({ frames := 2, cells := 0, slots := 0, locals := 43 }) (va_Pc [.ref h0, .int 0, .int 0] (fun U => U.heap.size = sz ∧ va_P (dC, dI) classes [(h0, .inr (12, mo v_r (upd (upd (upd (upd (upd (upd (upd (mi0 sd) 0 0) 75 0) 76 ((-1))) 81 0) 84 0) 85 0) 74 0) (fun _ => 0))), (v_r 12, .inl (cI, 90000, .inl (fun _ => 0))), (v_r 13, .inl (cI, 90000, .inl (fun _ => 0))), (v_r 14, .inl (cI, 90000, .inl (fun _ => 0)))] U.heap ∧ va_K (dC, dI) classes [(cI, .int), (cJ, .long), (cB, .byte)] U ∧ va_D (fun _ => True) [(h0, .inr (12, mo v_r (upd (upd (upd (upd (upd (upd (upd (mi0 sd) 0 0) 75 0) 76 ((-1))) 81 0) 84 0) 85 0) 74 0) (fun _ => 0))), (v_r 12, .inl (cI, 90000, .inl (fun _ => 0))), (v_r 13, .inl (cI, 90000, .inl (fun _ => 0))), (v_r 14, .inl (cI, 90000, .inl (fun _ => 0)))])) (va_Ql (fun (r : Int64) (_ : Unit) => r = 2) (fun (_ : Unit) t => va_P (dC, dI) classes [(h0, .inr (12, mo v_r (upd (upd (upd (upd (upd (upd (upd (upd (mi0 sd) 0 0) 75 0) 76 ((-1))) 81 0) 84 0) 85 0) 74 0) 21 1) (fun _ => 0))), (v_r 12, .inl (cI, 90000, .inl (upd (fun _ => 0) (0 : Int32).toNatClampNeg 0))), (v_r 13, .inl (cI, 90000, .inl (upd (fun _ => 0) (0 : Int32).toNatClampNeg 0))), (v_r 14, .inl (cI, 90000, .inl (upd (fun _ => 0) (0 : Int32).toNatClampNeg 1)))] t.heap ∧ va_K (dC, dI) classes [(cI, .int), (cJ, .long), (cB, .byte)] t ∧ va_D (va_A [(h0, .inr (12, mo v_r (upd (upd (upd (upd (upd (upd (upd (mi0 sd) 0 0) 75 0) 76 ((-1))) 81 0) 84 0) 85 0) 74 0) (fun _ => 0))), (v_r 12, .inl (cI, 90000, .inl (fun _ => 0))), (v_r 13, .inl (cI, 90000, .inl (fun _ => 0))), (v_r 14, .inl (cI, 90000, .inl (fun _ => 0)))] sz) [(h0, .inr (12, mo v_r (upd (upd (upd (upd (upd (upd (upd (upd (mi0 sd) 0 0) 75 0) 76 ((-1))) 81 0) 84 0) 85 0) 74 0) 21 1) (fun _ => 0))), (v_r 12, .inl (cI, 90000, .inl (upd (fun _ => 0) (0 : Int32).toNatClampNeg 0))), (v_r 13, .inl (cI, 90000, .inl (upd (fun _ => 0) (0 : Int32).toNatClampNeg 0))), (v_r 14, .inl (cI, 90000, .inl (upd (fun _ => 0) (0 : Int32).toNatClampNeg 1)))]) (va_A [(h0, .inr (12, mo v_r (upd (upd (upd (upd (upd (upd (upd (mi0 sd) 0 0) 75 0) 76 ((-1))) 81 0) 84 0) 85 0) 74 0) (fun _ => 0))), (v_r 12, .inl (cI, 90000, .inl (fun _ => 0))), (v_r 13, .inl (cI, 90000, .inl (fun _ => 0))), (v_r 14, .inl (cI, 90000, .inl (fun _ => 0)))] sz)) 0 0 (va_A [(h0, .inr (12, mo v_r (upd (upd (upd (upd (upd (upd (upd (mi0 sd) 0 0) 75 0) 76 ((-1))) 81 0) 84 0) 85 0) 74 0) (fun _ => 0))), (v_r 12, .inl (cI, 90000, .inl (fun _ => 0))), (v_r 13, .inl (cI, 90000, .inl (fun _ => 0))), (v_r 14, .inl (cI, 90000, .inl (fun _ => 0)))] sz) := by
  refine Met.ofW (cc := b_Model_within) (maxL := 6) (ret := (some .long)) (by decide) rfl ?_
  intro p e s m args below meth c s₁ B hml hv
  obtain ⟨rfl, hsz, hP, hK, hD0⟩ := hv
  have hx := B.exec
  have hb := B.bytes
  have hr := B.returns
  have hts := atoms_spec (ws := w_Model_within) B.pre
  have htt : ∀ w ∈ tw_T, w.before _ s = true := fun w h => hts w (List.mem_cons_of_mem _ h)
  have hown : s.vm.findClass R_Model = some m.cls := findClass_of_methodNamed B.named
  have hlocks := B.notSynchronized
  subst hsz
  have hD := hD0.self (sz := s.heap.size)
  generalize hAe : va_A [(h0, .inr (12, mo v_r (upd (upd (upd (upd (upd (upd (upd (mi0 sd) 0 0) 75 0) 76 ((-1))) 81 0) 84 0) 85 0) 74 0) (fun _ => 0))), (v_r 12, .inl (cI, 90000, .inl (fun _ => 0))), (v_r 13, .inl (cI, 90000, .inl (fun _ => 0))), (v_r 14, .inl (cI, 90000, .inl (fun _ => 0)))] s.heap.size = A at hD ⊢
  have hA : ∀ q : Nat, s.heap.size ≤ q → A q := fun q h => by rw [← hAe]; exact Or.inr h
  have hS : va_S A s.heap s.heap [] := va_S.rf
  have hP : va_P (dC, dI) classes [(h0, .inr (12, mo v_r (upd (upd (upd (upd (upd (upd (upd (mi0 sd) 0 0) 75 0) 76 ((-1))) 81 0) 84 0) 85 0) 74 0) (fun _ => 0))), (v_r 12, .inl (cI, 90000, .inl (fun _ => 0))), (v_r 13, .inl (cI, 90000, .inl (fun _ => 0))), (v_r 14, .inl (cI, 90000, .inl (fun _ => 0)))] s.heap := hP
  have hl := lv_entry ([.ref h0, .int 0, .int 0]) (n := 6) (Nat.le_of_ble_eq_true rfl)
  rw [lg_entry_eq]
  generalize (lg_sl ([.ref h0, .int 0, .int 0]) ++ List.replicate (6 - (lg_sl ([.ref h0, .int 0, .int 0])).length) Slot.unset).toArray = ls at hl ⊢
  have hl : lv_has ls 6 [(0, .ref h0), (1, .int 0), (2, .int 0)] := hl
  refine lv_iconst (v := 0) hx hb d_Model_within_0 (by decide) ?_
  refine lv_istore_n (lv' := [(3, .int 0), (0, .ref h0), (1, .int 0), (2, .int 0)]) hx hb d_Model_within_1 rfl hl (by decide) rfl (fun ls hl => ?_)
  refine lv_iload_n hx hb d_Model_within_2 rfl (lv_at hl 2 rfl) ?_
  refine lv_istore (lv' := [(4, .int 0), (3, .int 0), (0, .ref h0), (1, .int 0), (2, .int 0)]) hx hb d_Model_within_3 hl (by decide) rfl (fun ls hl => ?_)
  refine lv_iload hx hb d_Model_within_5 (lv_at hl 0 rfl) ?_
  refine lv_iload_n hx hb d_Model_within_7 rfl (lv_at hl 4 rfl) ?_
  refine lv_icmp_ge (tgt := 86) hx hb d_Model_within_8 (by decide) (fun c_1 => ?_) (fun c_1 => ?_)
  · refine lv_aload_n hx hb d_Model_within_86 rfl (lv_at hl 2 rfl) ?_
    refine lv_iload_n hx hb d_Model_within_87 rfl (lv_at hl 1 rfl) ?_
    have hPc := hP.sub (ws' := [(h0, .inr (12, mo v_r (upd (upd (upd (upd (upd (upd (upd (mi0 sd) 0 0) 75 0) 76 ((-1))) 81 0) 84 0) 85 0) 74 0) (fun _ => 0))), (v_r 12, .inl (cI, 90000, .inl (fun _ => 0))), (v_r 13, .inl (cI, 90000, .inl (fun _ => 0))), (v_r 14, .inl (cI, 90000, .inl (fun _ => 0)))]) [0, 1, 2, 3] rfl
    have hDc := hD.sub (ws' := [(h0, .inr (12, mo v_r (upd (upd (upd (upd (upd (upd (upd (mi0 sd) 0 0) 75 0) 76 ((-1))) 81 0) 84 0) 85 0) 74 0) (fun _ => 0))), (v_r 12, .inl (cI, 90000, .inl (fun _ => 0))), (v_r 13, .inl (cI, 90000, .inl (fun _ => 0))), (v_r 14, .inl (cI, 90000, .inl (fun _ => 0)))]) [0, 1, 2, 3] (by decide) rfl
    have hKc := hK.sub (tys' := [(cI, .int), (cJ, .long), (cB, .byte)]) [0, 1, 2] rfl
    have hFc := va_free (wc := [(h0, .inr (12, mo v_r (upd (upd (upd (upd (upd (upd (upd (mi0 sd) 0 0) 75 0) 76 ((-1))) 81 0) 84 0) 85 0) 74 0) (fun _ => 0))), (v_r 12, .inl (cI, 90000, .inl (fun _ => 0))), (v_r 13, .inl (cI, 90000, .inl (fun _ => 0))), (v_r 14, .inl (cI, 90000, .inl (fun _ => 0)))]) hD hS hA [0, 1, 2, 3] rfl
    refine va_calll (va_runV (As := [.int 0]) (rest := []) ⟨hx, hb, hml, hown, hts⟩ (c_Model_newList_c1 l dC dI s.heap.size h0 v_r cI cJ cB sd) (cwV 1 hts (tw_GV tw_cons cw_Model_newList lk_Model_468 in_Model_newList sel_Model_newList ini_Model) rfl rfl rfl (by decide +kernel) ⟨Nat.le_of_ble_eq_true rfl, Nat.le_of_ble_eq_true rfl⟩) ⟨fun a U g mk q => by obtain ⟨q0, q1, qP, qK, qD⟩ := q; exact ⟨q0, q1, qP, va_K.moved (u := U) (U := U.calling g mk a) (Vm.Alike.refl U.vm) qK, qD⟩, va_recv hKc hPc (ci := 12) (q0 := 0) rfl rfl, fun U hU hW => ⟨rfl, by rw [hU], by rw [hU]; exact hPc, va_K.moved hW.alike hKc, hDc.weaken (fun _ _ _ _ => trivial)⟩⟩ rfl rfl hl.1 rfl (lv_room (Nat.le_of_ble_eq_true rfl)) d_Model_within_88 ⟨Nat.le_of_ble_eq_true rfl, Nat.le_of_ble_eq_true rfl⟩) hS (fun q _ h => hFc q h) hFc (fun r9 u9 t9 H1 locs ht hvm e9 hB hz1 hk1 hS => ?_)
    obtain ⟨hP1, hK1, hD1⟩ := hB
    rw [ht] at hP1
    obtain ⟨hP, hD⟩ := va_join (wr := []) (w1 := [(h0, .inr (12, mo v_r (upd (upd (upd (upd (upd (upd (upd (upd (mi0 sd) 0 0) 75 0) 76 ((-1))) 81 0) 84 0) 85 0) 74 0) 21 1) (fun _ => 0))), (v_r 12, .inl (cI, 90000, .inl (upd (fun _ => 0) (0 : Int32).toNatClampNeg 0))), (v_r 13, .inl (cI, 90000, .inl (upd (fun _ => 0) (0 : Int32).toNatClampNeg 0))), (v_r 14, .inl (cI, 90000, .inl (upd (fun _ => 0) (0 : Int32).toNatClampNeg 1)))]) hP hD [0, 1, 2, 3] [] rfl rfl (by decide) (by decide) hk1 hFc hP1 hD1
    subst e9
    clear hP1 hD1 hK1 hvm hz1 hk1 hFc hKc hDc hPc
    subst ht
    generalize t9.heap = H at hP hS ⊢
    have hP : va_P (dC, dI) classes [(h0, .inr (12, mo v_r (upd (upd (upd (upd (upd (upd (upd (upd (mi0 sd) 0 0) 75 0) 76 ((-1))) 81 0) 84 0) 85 0) 74 0) 21 1) (fun _ => 0))), (v_r 12, .inl (cI, 90000, .inl (upd (fun _ => 0) (0 : Int32).toNatClampNeg 0))), (v_r 13, .inl (cI, 90000, .inl (upd (fun _ => 0) (0 : Int32).toNatClampNeg 0))), (v_r 14, .inl (cI, 90000, .inl (upd (fun _ => 0) (0 : Int32).toNatClampNeg 1)))] H := hP
    have hD : va_D A [(h0, .inr (12, mo v_r (upd (upd (upd (upd (upd (upd (upd (upd (mi0 sd) 0 0) 75 0) 76 ((-1))) 81 0) 84 0) 85 0) 74 0) 21 1) (fun _ => 0))), (v_r 12, .inl (cI, 90000, .inl (upd (fun _ => 0) (0 : Int32).toNatClampNeg 0))), (v_r 13, .inl (cI, 90000, .inl (upd (fun _ => 0) (0 : Int32).toNatClampNeg 0))), (v_r 14, .inl (cI, 90000, .inl (upd (fun _ => 0) (0 : Int32).toNatClampNeg 1)))] := hD
    have hP9 := hP.sub (ws' := [(h0, .inr (12, mo v_r (upd (upd (upd (upd (upd (upd (upd (upd (mi0 sd) 0 0) 75 0) 76 ((-1))) 81 0) 84 0) 85 0) 74 0) 21 1) (fun _ => 0))), (v_r 12, .inl (cI, 90000, .inl (upd (fun _ => 0) (0 : Int32).toNatClampNeg 0))), (v_r 13, .inl (cI, 90000, .inl (upd (fun _ => 0) (0 : Int32).toNatClampNeg 0))), (v_r 14, .inl (cI, 90000, .inl (upd (fun _ => 0) (0 : Int32).toNatClampNeg 1)))]) [0, 1, 2, 3] rfl
    have hD9 := hD.sub (ws' := [(h0, .inr (12, mo v_r (upd (upd (upd (upd (upd (upd (upd (upd (mi0 sd) 0 0) 75 0) 76 ((-1))) 81 0) 84 0) 85 0) 74 0) 21 1) (fun _ => 0))), (v_r 12, .inl (cI, 90000, .inl (upd (fun _ => 0) (0 : Int32).toNatClampNeg 0))), (v_r 13, .inl (cI, 90000, .inl (upd (fun _ => 0) (0 : Int32).toNatClampNeg 0))), (v_r 14, .inl (cI, 90000, .inl (upd (fun _ => 0) (0 : Int32).toNatClampNeg 1)))]) [0, 1, 2, 3] (by decide) rfl
    exact W.lret (v := 2) hx hb hr (fun t9 ht hW => ⟨⟨2, (), rfl, rfl, by rw [ht]; exact hP9, va_K.moved hW.alike hK, hD9⟩, hS.F ht⟩) hS.2.2 d_Model_within_91
  · exact absurd c_1 (by decide)

set_option maxHeartbeats 4000000 in
set_option maxRecDepth 100000 in
theorem c_Model_listOf_c1 (l : Launch) (dC : Nat → ClassId) (dI : Nat → Nat → Nat) (sz : Nat) (h0 : Nat) (v_r : Nat → Nat) (cI : ClassId) (cJ : ClassId) (cB : ClassId) (sd : Int32)  : Met l y_Model_listOf w_Model_listOf ({ frames := 3, cells := 0, slots := 0, locals := 68 }) (va_Pc [.ref h0, .int 0, .int 0] (fun U => U.heap.size = sz ∧ va_P (dC, dI) classes [(h0, .inr (12, mo v_r (upd (upd (upd (upd (upd (upd (upd (mi0 sd) 0 0) 75 0) 76 ((-1))) 81 0) 84 0) 85 0) 74 0) (fun _ => 0))), (v_r 12, .inl (cI, 90000, .inl (fun _ => 0))), (v_r 13, .inl (cI, 90000, .inl (fun _ => 0))), (v_r 14, .inl (cI, 90000, .inl (fun _ => 0)))] U.heap ∧ va_K (dC, dI) classes [(cI, .int), (cJ, .long), (cB, .byte)] U ∧ va_D (fun _ => True) [(h0, .inr (12, mo v_r (upd (upd (upd (upd (upd (upd (upd (mi0 sd) 0 0) 75 0) 76 ((-1))) 81 0) 84 0) 85 0) 74 0) (fun _ => 0))), (v_r 12, .inl (cI, 90000, .inl (fun _ => 0))), (v_r 13, .inl (cI, 90000, .inl (fun _ => 0))), (v_r 14, .inl (cI, 90000, .inl (fun _ => 0)))])) (va_Ql (fun (r : Int64) (_ : Unit) => r = 2) (fun (_ : Unit) t => va_P (dC, dI) classes [(h0, .inr (12, mo v_r (upd (upd (upd (upd (upd (upd (upd (upd (mi0 sd) 0 0) 75 0) 76 ((-1))) 81 0) 84 0) 85 0) 74 0) 21 1) (fun _ => 0))), (v_r 12, .inl (cI, 90000, .inl (upd (fun _ => 0) (0 : Int32).toNatClampNeg 0))), (v_r 13, .inl (cI, 90000, .inl (upd (fun _ => 0) (0 : Int32).toNatClampNeg 0))), (v_r 14, .inl (cI, 90000, .inl (upd (fun _ => 0) (0 : Int32).toNatClampNeg 1)))] t.heap ∧ va_K (dC, dI) classes [(cI, .int), (cJ, .long), (cB, .byte)] t ∧ va_D (va_A [(h0, .inr (12, mo v_r (upd (upd (upd (upd (upd (upd (upd (mi0 sd) 0 0) 75 0) 76 ((-1))) 81 0) 84 0) 85 0) 74 0) (fun _ => 0))), (v_r 12, .inl (cI, 90000, .inl (fun _ => 0))), (v_r 13, .inl (cI, 90000, .inl (fun _ => 0))), (v_r 14, .inl (cI, 90000, .inl (fun _ => 0)))] sz) [(h0, .inr (12, mo v_r (upd (upd (upd (upd (upd (upd (upd (upd (mi0 sd) 0 0) 75 0) 76 ((-1))) 81 0) 84 0) 85 0) 74 0) 21 1) (fun _ => 0))), (v_r 12, .inl (cI, 90000, .inl (upd (fun _ => 0) (0 : Int32).toNatClampNeg 0))), (v_r 13, .inl (cI, 90000, .inl (upd (fun _ => 0) (0 : Int32).toNatClampNeg 0))), (v_r 14, .inl (cI, 90000, .inl (upd (fun _ => 0) (0 : Int32).toNatClampNeg 1)))]) (va_A [(h0, .inr (12, mo v_r (upd (upd (upd (upd (upd (upd (upd (mi0 sd) 0 0) 75 0) 76 ((-1))) 81 0) 84 0) 85 0) 74 0) (fun _ => 0))), (v_r 12, .inl (cI, 90000, .inl (fun _ => 0))), (v_r 13, .inl (cI, 90000, .inl (fun _ => 0))), (v_r 14, .inl (cI, 90000, .inl (fun _ => 0)))] sz)) 0 0 (va_A [(h0, .inr (12, mo v_r (upd (upd (upd (upd (upd (upd (upd (mi0 sd) 0 0) 75 0) 76 ((-1))) 81 0) 84 0) 85 0) 74 0) (fun _ => 0))), (v_r 12, .inl (cI, 90000, .inl (fun _ => 0))), (v_r 13, .inl (cI, 90000, .inl (fun _ => 0))), (v_r 14, .inl (cI, 90000, .inl (fun _ => 0)))] sz) := by
  refine Met.ofW (cc := b_Model_listOf) (maxL := 4) (ret := (some .long)) (by decide) rfl ?_
  intro p e s m args below meth c s₁ B hml hv
  obtain ⟨rfl, hsz, hP, hK, hD0⟩ := hv
  have hx := B.exec
  have hb := B.bytes
  have hr := B.returns
  have hts := atoms_spec (ws := w_Model_listOf) B.pre
  have htt : ∀ w ∈ tw_T, w.before _ s = true := fun w h => hts w (List.mem_cons_of_mem _ h)
  have hown : s.vm.findClass R_Model = some m.cls := findClass_of_methodNamed B.named
  have hlocks := B.notSynchronized
  subst hsz
  have hD := hD0.self (sz := s.heap.size)
  generalize hAe : va_A [(h0, .inr (12, mo v_r (upd (upd (upd (upd (upd (upd (upd (mi0 sd) 0 0) 75 0) 76 ((-1))) 81 0) 84 0) 85 0) 74 0) (fun _ => 0))), (v_r 12, .inl (cI, 90000, .inl (fun _ => 0))), (v_r 13, .inl (cI, 90000, .inl (fun _ => 0))), (v_r 14, .inl (cI, 90000, .inl (fun _ => 0)))] s.heap.size = A at hD ⊢
  have hA : ∀ q : Nat, s.heap.size ≤ q → A q := fun q h => by rw [← hAe]; exact Or.inr h
  have hS : va_S A s.heap s.heap [] := va_S.rf
  have hP : va_P (dC, dI) classes [(h0, .inr (12, mo v_r (upd (upd (upd (upd (upd (upd (upd (mi0 sd) 0 0) 75 0) 76 ((-1))) 81 0) 84 0) 85 0) 74 0) (fun _ => 0))), (v_r 12, .inl (cI, 90000, .inl (fun _ => 0))), (v_r 13, .inl (cI, 90000, .inl (fun _ => 0))), (v_r 14, .inl (cI, 90000, .inl (fun _ => 0)))] s.heap := hP
  have hl := lv_entry ([.ref h0, .int 0, .int 0]) (n := 4) (Nat.le_of_ble_eq_true rfl)
  rw [lg_entry_eq]
  generalize (lg_sl ([.ref h0, .int 0, .int 0]) ++ List.replicate (4 - (lg_sl ([.ref h0, .int 0, .int 0])).length) Slot.unset).toArray = ls at hl ⊢
  have hl : lv_has ls 4 [(0, .ref h0), (1, .int 0), (2, .int 0)] := hl
  refine lv_iload_n hx hb d_Model_listOf_0 rfl (lv_at hl 2 rfl) ?_
  refine lv_iconst (v := 1) hx hb d_Model_listOf_1 (by decide) ?_
  refine lv_isub hx hb d_Model_listOf_2 ?_
  refine lv_topi (fun x_1 ex_1 => ?_)
  obtain rfl : x_1 = (-1) := by rw [ex_1]; decide
  clear ex_1
  refine lv_istore_n (lv' := [(3, .int ((-1))), (0, .ref h0), (1, .int 0), (2, .int 0)]) hx hb d_Model_listOf_3 rfl hl (by decide) rfl (fun ls hl => ?_)
  refine lv_iload_n hx hb d_Model_listOf_4 rfl (lv_at hl 0 rfl) ?_
  refine lv_iload_n hx hb d_Model_listOf_5 rfl (lv_at hl 2 rfl) ?_
  refine lv_icmp_lt (tgt := 57) hx hb d_Model_listOf_6 (by decide) (fun c_2 => ?_) (fun c_2 => ?_)
  · refine lv_aload_n hx hb d_Model_listOf_57 rfl (lv_at hl 1 rfl) ?_
    refine lv_iload_n hx hb d_Model_listOf_58 rfl (lv_at hl 2 rfl) ?_
    refine lv_iload_n hx hb d_Model_listOf_59 rfl (lv_at hl 3 rfl) ?_
    have hPc := hP.sub (ws' := [(h0, .inr (12, mo v_r (upd (upd (upd (upd (upd (upd (upd (mi0 sd) 0 0) 75 0) 76 ((-1))) 81 0) 84 0) 85 0) 74 0) (fun _ => 0))), (v_r 12, .inl (cI, 90000, .inl (fun _ => 0))), (v_r 13, .inl (cI, 90000, .inl (fun _ => 0))), (v_r 14, .inl (cI, 90000, .inl (fun _ => 0)))]) [0, 1, 2, 3] rfl
    have hDc := hD.sub (ws' := [(h0, .inr (12, mo v_r (upd (upd (upd (upd (upd (upd (upd (mi0 sd) 0 0) 75 0) 76 ((-1))) 81 0) 84 0) 85 0) 74 0) (fun _ => 0))), (v_r 12, .inl (cI, 90000, .inl (fun _ => 0))), (v_r 13, .inl (cI, 90000, .inl (fun _ => 0))), (v_r 14, .inl (cI, 90000, .inl (fun _ => 0)))]) [0, 1, 2, 3] (by decide) rfl
    have hKc := hK.sub (tys' := [(cI, .int), (cJ, .long), (cB, .byte)]) [0, 1, 2] rfl
    have hFc := va_free (wc := [(h0, .inr (12, mo v_r (upd (upd (upd (upd (upd (upd (upd (mi0 sd) 0 0) 75 0) 76 ((-1))) 81 0) 84 0) 85 0) 74 0) (fun _ => 0))), (v_r 12, .inl (cI, 90000, .inl (fun _ => 0))), (v_r 13, .inl (cI, 90000, .inl (fun _ => 0))), (v_r 14, .inl (cI, 90000, .inl (fun _ => 0)))]) hD hS hA [0, 1, 2, 3] rfl
    refine va_calll (va_runV (As := [.int 0, .int 0]) (rest := []) ⟨hx, hb, hml, hown, hts⟩ (c_Model_within_c1 l dC dI s.heap.size h0 v_r cI cJ cB sd) (cwV 2 hts (tw_GV tw_cons cw_Model_within lk_Model_461 in_Model_within sel_Model_within ini_Model) rfl rfl rfl (by decide +kernel) ⟨Nat.le_of_ble_eq_true rfl, Nat.le_of_ble_eq_true rfl⟩) ⟨fun a U g mk q => by obtain ⟨q0, q1, qP, qK, qD⟩ := q; exact ⟨q0, q1, qP, va_K.moved (u := U) (U := U.calling g mk a) (Vm.Alike.refl U.vm) qK, qD⟩, va_recv hKc hPc (ci := 12) (q0 := 0) rfl rfl, fun U hU hW => ⟨rfl, by rw [hU], by rw [hU]; exact hPc, va_K.moved hW.alike hKc, hDc.weaken (fun _ _ _ _ => trivial)⟩⟩ rfl rfl hl.1 rfl (lv_room (Nat.le_of_ble_eq_true rfl)) d_Model_listOf_60 ⟨Nat.le_of_ble_eq_true rfl, Nat.le_of_ble_eq_true rfl⟩) hS (fun q _ h => hFc q h) hFc (fun r9 u9 t9 H1 locs ht hvm e9 hB hz1 hk1 hS => ?_)
    obtain ⟨hP1, hK1, hD1⟩ := hB
    rw [ht] at hP1
    obtain ⟨hP, hD⟩ := va_join (wr := []) (w1 := [(h0, .inr (12, mo v_r (upd (upd (upd (upd (upd (upd (upd (upd (mi0 sd) 0 0) 75 0) 76 ((-1))) 81 0) 84 0) 85 0) 74 0) 21 1) (fun _ => 0))), (v_r 12, .inl (cI, 90000, .inl (upd (fun _ => 0) (0 : Int32).toNatClampNeg 0))), (v_r 13, .inl (cI, 90000, .inl (upd (fun _ => 0) (0 : Int32).toNatClampNeg 0))), (v_r 14, .inl (cI, 90000, .inl (upd (fun _ => 0) (0 : Int32).toNatClampNeg 1)))]) hP hD [0, 1, 2, 3] [] rfl rfl (by decide) (by decide) hk1 hFc hP1 hD1
    subst e9
    clear hP1 hD1 hK1 hvm hz1 hk1 hFc hKc hDc hPc
    subst ht
    generalize t9.heap = H at hP hS ⊢
    have hP : va_P (dC, dI) classes [(h0, .inr (12, mo v_r (upd (upd (upd (upd (upd (upd (upd (upd (mi0 sd) 0 0) 75 0) 76 ((-1))) 81 0) 84 0) 85 0) 74 0) 21 1) (fun _ => 0))), (v_r 12, .inl (cI, 90000, .inl (upd (fun _ => 0) (0 : Int32).toNatClampNeg 0))), (v_r 13, .inl (cI, 90000, .inl (upd (fun _ => 0) (0 : Int32).toNatClampNeg 0))), (v_r 14, .inl (cI, 90000, .inl (upd (fun _ => 0) (0 : Int32).toNatClampNeg 1)))] H := hP
    have hD : va_D A [(h0, .inr (12, mo v_r (upd (upd (upd (upd (upd (upd (upd (upd (mi0 sd) 0 0) 75 0) 76 ((-1))) 81 0) 84 0) 85 0) 74 0) 21 1) (fun _ => 0))), (v_r 12, .inl (cI, 90000, .inl (upd (fun _ => 0) (0 : Int32).toNatClampNeg 0))), (v_r 13, .inl (cI, 90000, .inl (upd (fun _ => 0) (0 : Int32).toNatClampNeg 0))), (v_r 14, .inl (cI, 90000, .inl (upd (fun _ => 0) (0 : Int32).toNatClampNeg 1)))] := hD
    have hP9 := hP.sub (ws' := [(h0, .inr (12, mo v_r (upd (upd (upd (upd (upd (upd (upd (upd (mi0 sd) 0 0) 75 0) 76 ((-1))) 81 0) 84 0) 85 0) 74 0) 21 1) (fun _ => 0))), (v_r 12, .inl (cI, 90000, .inl (upd (fun _ => 0) (0 : Int32).toNatClampNeg 0))), (v_r 13, .inl (cI, 90000, .inl (upd (fun _ => 0) (0 : Int32).toNatClampNeg 0))), (v_r 14, .inl (cI, 90000, .inl (upd (fun _ => 0) (0 : Int32).toNatClampNeg 1)))]) [0, 1, 2, 3] rfl
    have hD9 := hD.sub (ws' := [(h0, .inr (12, mo v_r (upd (upd (upd (upd (upd (upd (upd (upd (mi0 sd) 0 0) 75 0) 76 ((-1))) 81 0) 84 0) 85 0) 74 0) 21 1) (fun _ => 0))), (v_r 12, .inl (cI, 90000, .inl (upd (fun _ => 0) (0 : Int32).toNatClampNeg 0))), (v_r 13, .inl (cI, 90000, .inl (upd (fun _ => 0) (0 : Int32).toNatClampNeg 0))), (v_r 14, .inl (cI, 90000, .inl (upd (fun _ => 0) (0 : Int32).toNatClampNeg 1)))]) [0, 1, 2, 3] (by decide) rfl
    exact W.lret (v := 2) hx hb hr (fun t9 ht hW => ⟨⟨2, (), rfl, rfl, by rw [ht]; exact hP9, va_K.moved hW.alike hK, hD9⟩, hS.F ht⟩) hS.2.2 d_Model_listOf_63
  · exact absurd c_2 (by decide)

set_option maxHeartbeats 4000000 in
set_option maxRecDepth 100000 in
theorem c_Model_move_c1 (l : Launch) (dC : Nat → ClassId) (dI : Nat → Nat → Nat) (sz : Nat) (h0 : Nat) (v_r : Nat → Nat) (cI : ClassId) (cJ : ClassId) (cB : ClassId) (sd : Int32)  : Met l y_Model_move w_Model_move ({ frames := 2, cells := 0, slots := 0, locals := 42 }) (va_Pc [.ref h0, .long 2] (fun U => U.heap.size = sz ∧ va_P (dC, dI) classes [(h0, .inr (12, mo v_r (upd (upd (upd (upd (upd (upd (upd (upd (upd (upd (upd (upd (mi0 sd) 0 0) 75 0) 76 ((-1))) 81 0) 84 0) 85 0) 74 0) 21 1) 67 0) 68 0) 69 0) 70 0) (fun _ => 0))), (v_r 17, .inl (cI, 90000, .inl (upd (fun _ => 0) (0 : Int32).toNatClampNeg ((-1))))), (v_r 71, .inl (cI, 90000, .inl (fun _ => 0)))] U.heap ∧ va_K (dC, dI) classes [(cI, .int), (cJ, .long), (cB, .byte)] U ∧ va_D (fun _ => True) [(h0, .inr (12, mo v_r (upd (upd (upd (upd (upd (upd (upd (upd (upd (upd (upd (upd (mi0 sd) 0 0) 75 0) 76 ((-1))) 81 0) 84 0) 85 0) 74 0) 21 1) 67 0) 68 0) 69 0) 70 0) (fun _ => 0))), (v_r 17, .inl (cI, 90000, .inl (upd (fun _ => 0) (0 : Int32).toNatClampNeg ((-1))))), (v_r 71, .inl (cI, 90000, .inl (fun _ => 0)))])) (va_Ql (fun (r : Int64) (_ : Unit) => r = 2) (fun (_ : Unit) t => va_P (dC, dI) classes [(h0, .inr (12, mo v_r (upd (upd (upd (upd (upd (upd (upd (upd (upd (upd (upd (upd (upd (mi0 sd) 0 0) 75 0) 76 ((-1))) 81 0) 84 0) 85 0) 74 0) 21 1) 67 0) 68 0) 69 0) 70 0) 70 1) (fun _ => 0))), (v_r 17, .inl (cI, 90000, .inl (upd (upd (fun _ => 0) (0 : Int32).toNatClampNeg ((-1))) (0 : Int32).toNatClampNeg 0))), (v_r 71, .inl (cI, 90000, .inl (upd (fun _ => 0) (0 : Int32).toNatClampNeg 0)))] t.heap ∧ va_K (dC, dI) classes [(cI, .int), (cJ, .long), (cB, .byte)] t ∧ va_D (va_A [(h0, .inr (12, mo v_r (upd (upd (upd (upd (upd (upd (upd (upd (upd (upd (upd (upd (mi0 sd) 0 0) 75 0) 76 ((-1))) 81 0) 84 0) 85 0) 74 0) 21 1) 67 0) 68 0) 69 0) 70 0) (fun _ => 0))), (v_r 17, .inl (cI, 90000, .inl (upd (fun _ => 0) (0 : Int32).toNatClampNeg ((-1))))), (v_r 71, .inl (cI, 90000, .inl (fun _ => 0)))] sz) [(h0, .inr (12, mo v_r (upd (upd (upd (upd (upd (upd (upd (upd (upd (upd (upd (upd (upd (mi0 sd) 0 0) 75 0) 76 ((-1))) 81 0) 84 0) 85 0) 74 0) 21 1) 67 0) 68 0) 69 0) 70 0) 70 1) (fun _ => 0))), (v_r 17, .inl (cI, 90000, .inl (upd (upd (fun _ => 0) (0 : Int32).toNatClampNeg ((-1))) (0 : Int32).toNatClampNeg 0))), (v_r 71, .inl (cI, 90000, .inl (upd (fun _ => 0) (0 : Int32).toNatClampNeg 0)))]) (va_A [(h0, .inr (12, mo v_r (upd (upd (upd (upd (upd (upd (upd (upd (upd (upd (upd (upd (mi0 sd) 0 0) 75 0) 76 ((-1))) 81 0) 84 0) 85 0) 74 0) 21 1) 67 0) 68 0) 69 0) 70 0) (fun _ => 0))), (v_r 17, .inl (cI, 90000, .inl (upd (fun _ => 0) (0 : Int32).toNatClampNeg ((-1))))), (v_r 71, .inl (cI, 90000, .inl (fun _ => 0)))] sz)) 0 0 (va_A [(h0, .inr (12, mo v_r (upd (upd (upd (upd (upd (upd (upd (upd (upd (upd (upd (upd (mi0 sd) 0 0) 75 0) 76 ((-1))) 81 0) 84 0) 85 0) 74 0) 21 1) 67 0) 68 0) 69 0) 70 0) (fun _ => 0))), (v_r 17, .inl (cI, 90000, .inl (upd (fun _ => 0) (0 : Int32).toNatClampNeg ((-1))))), (v_r 71, .inl (cI, 90000, .inl (fun _ => 0)))] sz) := by
  refine Met.ofW (cc := b_Model_move) (maxL := 4) (ret := (some .long)) (by decide) rfl ?_
  intro p e s m args below meth c s₁ B hml hv
  obtain ⟨rfl, hsz, hP, hK, hD0⟩ := hv
  have hx := B.exec
  have hb := B.bytes
  have hr := B.returns
  have hts := atoms_spec (ws := w_Model_move) B.pre
  have htt : ∀ w ∈ tw_T, w.before _ s = true := fun w h => hts w (List.mem_cons_of_mem _ h)
  have hown : s.vm.findClass R_Model = some m.cls := findClass_of_methodNamed B.named
  have hlocks := B.notSynchronized
  subst hsz
  have hD := hD0.self (sz := s.heap.size)
  generalize hAe : va_A [(h0, .inr (12, mo v_r (upd (upd (upd (upd (upd (upd (upd (upd (upd (upd (upd (upd (mi0 sd) 0 0) 75 0) 76 ((-1))) 81 0) 84 0) 85 0) 74 0) 21 1) 67 0) 68 0) 69 0) 70 0) (fun _ => 0))), (v_r 17, .inl (cI, 90000, .inl (upd (fun _ => 0) (0 : Int32).toNatClampNeg ((-1))))), (v_r 71, .inl (cI, 90000, .inl (fun _ => 0)))] s.heap.size = A at hD ⊢
  have hA : ∀ q : Nat, s.heap.size ≤ q → A q := fun q h => by rw [← hAe]; exact Or.inr h
  have hS : va_S A s.heap s.heap [] := va_S.rf
  have hP : va_P (dC, dI) classes [(h0, .inr (12, mo v_r (upd (upd (upd (upd (upd (upd (upd (upd (upd (upd (upd (upd (mi0 sd) 0 0) 75 0) 76 ((-1))) 81 0) 84 0) 85 0) 74 0) 21 1) 67 0) 68 0) 69 0) 70 0) (fun _ => 0))), (v_r 17, .inl (cI, 90000, .inl (upd (fun _ => 0) (0 : Int32).toNatClampNeg ((-1))))), (v_r 71, .inl (cI, 90000, .inl (fun _ => 0)))] s.heap := hP
  have hl := lv_entry ([.ref h0, .long 2]) (n := 4) (Nat.le_of_ble_eq_true rfl)
  rw [lg_entry_eq]
  generalize (lg_sl ([.ref h0, .long 2]) ++ List.replicate (4 - (lg_sl ([.ref h0, .long 2])).length) Slot.unset).toArray = ls at hl ⊢
  have hl : lv_has ls 4 [(0, .ref h0), (1, .long 2)] := hl
  refine lv_lload_n hx hb d_Model_move_0 rfl (lv_at hl 1 rfl) ?_
  have hPc := hP.sub (ws' := []) [] rfl
  have hDc := hD.sub (ws' := []) [] (by decide) rfl
  have hKc := hK.sub (tys' := []) [] rfl
  have hFc := va_free (wc := []) hD hS hA [] rfl
  refine va_calli (va_runS (As := [.long 2]) (rest := []) ⟨hx, hb, hml, hown, hts⟩ (c_Model_isNumber l dC dI s.heap.size 2) (va_cwS 1 hts (tw_GS tw_cons cw_Model_isNumber lk_Model_57 st_Model_isNumber ini_Model) rfl rfl rfl (by decide +kernel) ⟨Nat.le_of_ble_eq_true rfl, Nat.le_of_ble_eq_true rfl⟩) ⟨fun a U g mk q => by obtain ⟨q0, q1, qP, qK, qD⟩ := q; exact ⟨q0, q1, qP, va_K.moved (u := U) (U := U.calling g mk a) (Vm.Alike.refl U.vm) qK, qD⟩, fun U hU hW => ⟨rfl, by rw [hU], by rw [hU]; exact hPc, va_K.moved hW.alike hKc, hDc.weaken (fun _ _ _ _ => trivial)⟩⟩ rfl rfl hl.1 rfl (lv_room (Nat.le_of_ble_eq_true rfl)) d_Model_move_1 ⟨Nat.le_of_ble_eq_true rfl, Nat.le_of_ble_eq_true rfl⟩) hS (fun q _ h => hFc q h) hFc (fun r9 u9 t9 H1 locs ht hvm e9 hB hz1 hk1 hS => ?_)
  obtain ⟨hP1, hK1, hD1⟩ := hB
  rw [ht] at hP1
  obtain ⟨hP, hD⟩ := va_join (wr := [(h0, .inr (12, mo v_r (upd (upd (upd (upd (upd (upd (upd (upd (upd (upd (upd (upd (mi0 sd) 0 0) 75 0) 76 ((-1))) 81 0) 84 0) 85 0) 74 0) 21 1) 67 0) 68 0) 69 0) 70 0) (fun _ => 0))), (v_r 17, .inl (cI, 90000, .inl (upd (fun _ => 0) (0 : Int32).toNatClampNeg ((-1))))), (v_r 71, .inl (cI, 90000, .inl (fun _ => 0)))]) (w1 := []) hP hD [] [0, 1, 2] rfl rfl (by decide) (by decide) hk1 hFc hP1 hD1
  subst e9
  clear hP1 hD1 hK1 hvm hz1 hk1 hFc hKc hDc hPc
  subst ht
  generalize t9.heap = H at hP hS ⊢
  have hP : va_P (dC, dI) classes [(h0, .inr (12, mo v_r (upd (upd (upd (upd (upd (upd (upd (upd (upd (upd (upd (upd (mi0 sd) 0 0) 75 0) 76 ((-1))) 81 0) 84 0) 85 0) 74 0) 21 1) 67 0) 68 0) 69 0) 70 0) (fun _ => 0))), (v_r 17, .inl (cI, 90000, .inl (upd (fun _ => 0) (0 : Int32).toNatClampNeg ((-1))))), (v_r 71, .inl (cI, 90000, .inl (fun _ => 0)))] H := hP
  have hD : va_D A [(h0, .inr (12, mo v_r (upd (upd (upd (upd (upd (upd (upd (upd (upd (upd (upd (upd (mi0 sd) 0 0) 75 0) 76 ((-1))) 81 0) 84 0) 85 0) 74 0) 21 1) 67 0) 68 0) 69 0) 70 0) (fun _ => 0))), (v_r 17, .inl (cI, 90000, .inl (upd (fun _ => 0) (0 : Int32).toNatClampNeg ((-1))))), (v_r 71, .inl (cI, 90000, .inl (fun _ => 0)))] := hD
  refine lv_topi (fun x_1 ex_1 => ?_)
  obtain rfl : x_1 = 0 := by rw [ex_1]; decide
  clear ex_1
  refine lv_if_eq (tgt := 9) hx hb d_Model_move_4 (by decide) (fun c_2 => ?_) (fun c_2 => ?_)
  · refine lv_lload_n hx hb d_Model_move_9 rfl (lv_at hl 1 rfl) ?_
    have hPc := hP.sub (ws' := []) [] rfl
    have hDc := hD.sub (ws' := []) [] (by decide) rfl
    have hKc := hK.sub (tys' := []) [] rfl
    have hFc := va_free (wc := []) hD hS hA [] rfl
    refine va_calli (va_runS (As := [.long 2]) (rest := []) ⟨hx, hb, hml, hown, hts⟩ (c_Model_isWord l dC dI H.size 2) (va_cwS 1 hts (tw_GS tw_cons cw_Model_isWord lk_Model_61 st_Model_isWord ini_Model) rfl rfl rfl (by decide +kernel) ⟨Nat.le_of_ble_eq_true rfl, Nat.le_of_ble_eq_true rfl⟩) ⟨fun a U g mk q => by obtain ⟨q0, q1, qP, qK, qD⟩ := q; exact ⟨q0, q1, qP, va_K.moved (u := U) (U := U.calling g mk a) (Vm.Alike.refl U.vm) qK, qD⟩, fun U hU hW => ⟨rfl, by rw [hU], by rw [hU]; exact hPc, va_K.moved hW.alike hKc, hDc.weaken (fun _ _ _ _ => trivial)⟩⟩ rfl rfl hl.1 rfl (lv_room (Nat.le_of_ble_eq_true rfl)) d_Model_move_10 ⟨Nat.le_of_ble_eq_true rfl, Nat.le_of_ble_eq_true rfl⟩) hS (fun q _ h => hFc q h) hFc (fun r9 u9 t9 H1 locs ht hvm e9 hB hz1 hk1 hS => ?_)
    obtain ⟨hP1, hK1, hD1⟩ := hB
    rw [ht] at hP1
    obtain ⟨hP, hD⟩ := va_join (wr := [(h0, .inr (12, mo v_r (upd (upd (upd (upd (upd (upd (upd (upd (upd (upd (upd (upd (mi0 sd) 0 0) 75 0) 76 ((-1))) 81 0) 84 0) 85 0) 74 0) 21 1) 67 0) 68 0) 69 0) 70 0) (fun _ => 0))), (v_r 17, .inl (cI, 90000, .inl (upd (fun _ => 0) (0 : Int32).toNatClampNeg ((-1))))), (v_r 71, .inl (cI, 90000, .inl (fun _ => 0)))]) (w1 := []) hP hD [] [0, 1, 2] rfl rfl (by decide) (by decide) hk1 hFc hP1 hD1
    subst e9
    clear hP1 hD1 hK1 hvm hz1 hk1 hFc hKc hDc hPc
    subst ht
    generalize t9.heap = H at hP hS ⊢
    have hP : va_P (dC, dI) classes [(h0, .inr (12, mo v_r (upd (upd (upd (upd (upd (upd (upd (upd (upd (upd (upd (upd (mi0 sd) 0 0) 75 0) 76 ((-1))) 81 0) 84 0) 85 0) 74 0) 21 1) 67 0) 68 0) 69 0) 70 0) (fun _ => 0))), (v_r 17, .inl (cI, 90000, .inl (upd (fun _ => 0) (0 : Int32).toNatClampNeg ((-1))))), (v_r 71, .inl (cI, 90000, .inl (fun _ => 0)))] H := hP
    have hD : va_D A [(h0, .inr (12, mo v_r (upd (upd (upd (upd (upd (upd (upd (upd (upd (upd (upd (upd (mi0 sd) 0 0) 75 0) 76 ((-1))) 81 0) 84 0) 85 0) 74 0) 21 1) 67 0) 68 0) 69 0) 70 0) (fun _ => 0))), (v_r 17, .inl (cI, 90000, .inl (upd (fun _ => 0) (0 : Int32).toNatClampNeg ((-1))))), (v_r 71, .inl (cI, 90000, .inl (fun _ => 0)))] := hD
    refine lv_topi (fun x_3 ex_3 => ?_)
    obtain rfl : x_3 = 0 := by rw [ex_3]; decide
    clear ex_3
    refine lv_if_eq (tgt := 28) hx hb d_Model_move_13 (by decide) (fun c_4 => ?_) (fun c_4 => ?_)
    · refine lv_lload_n hx hb d_Model_move_28 rfl (lv_at hl 1 rfl) ?_
      have hPc := hP.sub (ws' := []) [] rfl
      have hDc := hD.sub (ws' := []) [] (by decide) rfl
      have hKc := hK.sub (tys' := []) [] rfl
      have hFc := va_free (wc := []) hD hS hA [] rfl
      refine va_calli (va_runS (As := [.long 2]) (rest := []) ⟨hx, hb, hml, hown, hts⟩ (c_Model_what l dC dI H.size 2) (va_cwS 1 hts (tw_GS tw_cons cw_Model_what lk_Model_64 st_Model_what ini_Model) rfl rfl rfl (by decide +kernel) ⟨Nat.le_of_ble_eq_true rfl, Nat.le_of_ble_eq_true rfl⟩) ⟨fun a U g mk q => by obtain ⟨q0, q1, qP, qK, qD⟩ := q; exact ⟨q0, q1, qP, va_K.moved (u := U) (U := U.calling g mk a) (Vm.Alike.refl U.vm) qK, qD⟩, fun U hU hW => ⟨rfl, by rw [hU], by rw [hU]; exact hPc, va_K.moved hW.alike hKc, hDc.weaken (fun _ _ _ _ => trivial)⟩⟩ rfl rfl hl.1 rfl (lv_room (Nat.le_of_ble_eq_true rfl)) d_Model_move_29 ⟨Nat.le_of_ble_eq_true rfl, Nat.le_of_ble_eq_true rfl⟩) hS (fun q _ h => hFc q h) hFc (fun r9 u9 t9 H1 locs ht hvm e9 hB hz1 hk1 hS => ?_)
      obtain ⟨hP1, hK1, hD1⟩ := hB
      rw [ht] at hP1
      obtain ⟨hP, hD⟩ := va_join (wr := [(h0, .inr (12, mo v_r (upd (upd (upd (upd (upd (upd (upd (upd (upd (upd (upd (upd (mi0 sd) 0 0) 75 0) 76 ((-1))) 81 0) 84 0) 85 0) 74 0) 21 1) 67 0) 68 0) 69 0) 70 0) (fun _ => 0))), (v_r 17, .inl (cI, 90000, .inl (upd (fun _ => 0) (0 : Int32).toNatClampNeg ((-1))))), (v_r 71, .inl (cI, 90000, .inl (fun _ => 0)))]) (w1 := []) hP hD [] [0, 1, 2] rfl rfl (by decide) (by decide) hk1 hFc hP1 hD1
      subst e9
      clear hP1 hD1 hK1 hvm hz1 hk1 hFc hKc hDc hPc
      subst ht
      generalize t9.heap = H at hP hS ⊢
      have hP : va_P (dC, dI) classes [(h0, .inr (12, mo v_r (upd (upd (upd (upd (upd (upd (upd (upd (upd (upd (upd (upd (mi0 sd) 0 0) 75 0) 76 ((-1))) 81 0) 84 0) 85 0) 74 0) 21 1) 67 0) 68 0) 69 0) 70 0) (fun _ => 0))), (v_r 17, .inl (cI, 90000, .inl (upd (fun _ => 0) (0 : Int32).toNatClampNeg ((-1))))), (v_r 71, .inl (cI, 90000, .inl (fun _ => 0)))] H := hP
      have hD : va_D A [(h0, .inr (12, mo v_r (upd (upd (upd (upd (upd (upd (upd (upd (upd (upd (upd (upd (mi0 sd) 0 0) 75 0) 76 ((-1))) 81 0) 84 0) 85 0) 74 0) 21 1) 67 0) 68 0) 69 0) 70 0) (fun _ => 0))), (v_r 17, .inl (cI, 90000, .inl (upd (fun _ => 0) (0 : Int32).toNatClampNeg ((-1))))), (v_r 71, .inl (cI, 90000, .inl (fun _ => 0)))] := hD
      refine lv_topi (fun x_5 ex_5 => ?_)
      obtain rfl : x_5 = 0 := by rw [ex_5]; decide
      clear ex_5
      refine lv_istore_n (lv' := [(3, .int 0), (0, .ref h0), (1, .long 2)]) hx hb d_Model_move_32 rfl hl (by decide) rfl (fun ls hl => ?_)
      refine lv_aload_n hx hb d_Model_move_33 rfl (lv_at hl 1 rfl) ?_
      refine va_get (D := (dC, dI)) (ci := 12) (v := .ref (v_r 17)) (C := R_Model) (T := F_Model) (N := 127) hx hb htt iw_Model hown hK hP 0 rfl rfl 17 (by decide) (htt _ lk_Model_179) (fun _ h9 => h9) rfl d_Model_move_34 ?_
      refine lv_iload_n hx hb d_Model_move_37 rfl (lv_at hl 0 rfl) ?_
      have h_6 : vp_in 0 90000 := vp_in_iff.mpr (by decide +kernel)
      refine va_iald hx hb hK hP 1 0 rfl rfl h_6 d_Model_move_38 ?_
      refine lv_topi (fun x_7 ex_7 => ?_)
      obtain rfl : x_7 = (-1) := by rw [ex_7]; rfl
      clear ex_7
      refine lv_iconst (v := -1) hx hb d_Model_move_39 (by decide) ?_
      refine lv_icmp_ne (tgt := 73) hx hb d_Model_move_40 (by decide) (fun c_8 => ?_) (fun c_8 => ?_)
      · exact absurd c_8 (by decide)
      · refine lv_aload_n hx hb d_Model_move_43 rfl (lv_at hl 1 rfl) ?_
        refine va_get (D := (dC, dI)) (ci := 12) (v := .ref (v_r 17)) (C := R_Model) (T := F_Model) (N := 127) hx hb htt iw_Model hown hK hP 0 rfl rfl 17 (by decide) (htt _ lk_Model_179) (fun _ h9 => h9) rfl d_Model_move_44 ?_
        refine lv_iload_n hx hb d_Model_move_47 rfl (lv_at hl 0 rfl) ?_
        refine lv_aload_n hx hb d_Model_move_48 rfl (lv_at hl 1 rfl) ?_
        refine va_get (D := (dC, dI)) (ci := 12) (v := .int 0) (C := R_Model) (T := F_Model) (N := 127) hx hb htt iw_Model hown hK hP 0 rfl rfl 70 (by decide) (htt _ lk_Model_399) (fun _ h9 => h9) rfl d_Model_move_49 ?_
        have h_9 : vp_in 0 90000 := vp_in_iff.mpr (by decide +kernel)
        refine va_iast hx hb hK hP hD hS 1 0 rfl rfl h_9 d_Model_move_52 (fun H locs hP hD hS => ?_)
        have hP : va_P (dC, dI) classes [(h0, .inr (12, mo v_r (upd (upd (upd (upd (upd (upd (upd (upd (upd (upd (upd (upd (mi0 sd) 0 0) 75 0) 76 ((-1))) 81 0) 84 0) 85 0) 74 0) 21 1) 67 0) 68 0) 69 0) 70 0) (fun _ => 0))), (v_r 17, .inl (cI, 90000, .inl (upd (upd (fun _ => 0) (0 : Int32).toNatClampNeg ((-1))) (0 : Int32).toNatClampNeg 0))), (v_r 71, .inl (cI, 90000, .inl (fun _ => 0)))] H := hP
        have hD : va_D A [(h0, .inr (12, mo v_r (upd (upd (upd (upd (upd (upd (upd (upd (upd (upd (upd (upd (mi0 sd) 0 0) 75 0) 76 ((-1))) 81 0) 84 0) 85 0) 74 0) 21 1) 67 0) 68 0) 69 0) 70 0) (fun _ => 0))), (v_r 17, .inl (cI, 90000, .inl (upd (upd (fun _ => 0) (0 : Int32).toNatClampNeg ((-1))) (0 : Int32).toNatClampNeg 0))), (v_r 71, .inl (cI, 90000, .inl (fun _ => 0)))] := hD
        refine lv_aload_n hx hb d_Model_move_53 rfl (lv_at hl 1 rfl) ?_
        refine va_get (D := (dC, dI)) (ci := 12) (v := .ref (v_r 71)) (C := R_Model) (T := F_Model) (N := 127) hx hb htt iw_Model hown hK hP 0 rfl rfl 71 (by decide) (htt _ lk_Model_255) (fun _ h9 => h9) rfl d_Model_move_54 ?_
        refine lv_aload_n hx hb d_Model_move_57 rfl (lv_at hl 1 rfl) ?_
        refine va_get (D := (dC, dI)) (ci := 12) (v := .int 0) (C := R_Model) (T := F_Model) (N := 127) hx hb htt iw_Model hown hK hP 0 rfl rfl 70 (by decide) (htt _ lk_Model_399) (fun _ h9 => h9) rfl d_Model_move_58 ?_
        refine lv_iload_n hx hb d_Model_move_61 rfl (lv_at hl 0 rfl) ?_
        have h_10 : vp_in 0 90000 := vp_in_iff.mpr (by decide +kernel)
        refine va_iast hx hb hK hP hD hS 2 0 rfl rfl h_10 d_Model_move_62 (fun H locs hP hD hS => ?_)
        have hP : va_P (dC, dI) classes [(h0, .inr (12, mo v_r (upd (upd (upd (upd (upd (upd (upd (upd (upd (upd (upd (upd (mi0 sd) 0 0) 75 0) 76 ((-1))) 81 0) 84 0) 85 0) 74 0) 21 1) 67 0) 68 0) 69 0) 70 0) (fun _ => 0))), (v_r 17, .inl (cI, 90000, .inl (upd (upd (fun _ => 0) (0 : Int32).toNatClampNeg ((-1))) (0 : Int32).toNatClampNeg 0))), (v_r 71, .inl (cI, 90000, .inl (upd (fun _ => 0) (0 : Int32).toNatClampNeg 0)))] H := hP
        have hD : va_D A [(h0, .inr (12, mo v_r (upd (upd (upd (upd (upd (upd (upd (upd (upd (upd (upd (upd (mi0 sd) 0 0) 75 0) 76 ((-1))) 81 0) 84 0) 85 0) 74 0) 21 1) 67 0) 68 0) 69 0) 70 0) (fun _ => 0))), (v_r 17, .inl (cI, 90000, .inl (upd (upd (fun _ => 0) (0 : Int32).toNatClampNeg ((-1))) (0 : Int32).toNatClampNeg 0))), (v_r 71, .inl (cI, 90000, .inl (upd (fun _ => 0) (0 : Int32).toNatClampNeg 0)))] := hD
        refine lv_aload_n hx hb d_Model_move_63 rfl (lv_at hl 1 rfl) ?_
        refine lv_dup hx hb d_Model_move_64 rfl ?_
        refine va_get (D := (dC, dI)) (ci := 12) (v := .int 0) (C := R_Model) (T := F_Model) (N := 127) hx hb htt iw_Model hown hK hP 0 rfl rfl 70 (by decide) (htt _ lk_Model_399) (fun _ h9 => h9) rfl d_Model_move_65 ?_
        refine lv_iconst (v := 1) hx hb d_Model_move_68 (by decide) ?_
        refine lv_iadd hx hb d_Model_move_69 ?_
        refine lv_topi (fun x_11 ex_11 => ?_)
        obtain rfl : x_11 = 1 := by rw [ex_11]; decide
        clear ex_11
        refine va_put (D := (dC, dI)) (ci := 12) (v := .int 1) (ty := .int) (C := R_Model) (T := F_Model) (N := 127) hx hb htt iw_Model t_Model t_Model_ok n_Model hown hK hP hD hS 0 rfl rfl 70 (by decide) (htt _ lk_Model_399) (fun _ h9 => h9) rfl (by decide +kernel) rfl rfl (Nat.le_of_ble_eq_true rfl) d_Model_move_70 (fun H locs hP hD hS => ?_)
        have hP : va_P (dC, dI) classes [(h0, .inr (12, mo v_r (upd (upd (upd (upd (upd (upd (upd (upd (upd (upd (upd (upd (upd (mi0 sd) 0 0) 75 0) 76 ((-1))) 81 0) 84 0) 85 0) 74 0) 21 1) 67 0) 68 0) 69 0) 70 0) 70 1) (fun _ => 0))), (v_r 17, .inl (cI, 90000, .inl (upd (upd (fun _ => 0) (0 : Int32).toNatClampNeg ((-1))) (0 : Int32).toNatClampNeg 0))), (v_r 71, .inl (cI, 90000, .inl (upd (fun _ => 0) (0 : Int32).toNatClampNeg 0)))] H := hP
        have hD : va_D A [(h0, .inr (12, mo v_r (upd (upd (upd (upd (upd (upd (upd (upd (upd (upd (upd (upd (upd (mi0 sd) 0 0) 75 0) 76 ((-1))) 81 0) 84 0) 85 0) 74 0) 21 1) 67 0) 68 0) 69 0) 70 0) 70 1) (fun _ => 0))), (v_r 17, .inl (cI, 90000, .inl (upd (upd (fun _ => 0) (0 : Int32).toNatClampNeg ((-1))) (0 : Int32).toNatClampNeg 0))), (v_r 71, .inl (cI, 90000, .inl (upd (fun _ => 0) (0 : Int32).toNatClampNeg 0)))] := hD
        refine lv_aload_n hx hb d_Model_move_73 rfl (lv_at hl 1 rfl) ?_
        refine va_get (D := (dC, dI)) (ci := 12) (v := .ref (v_r 17)) (C := R_Model) (T := F_Model) (N := 127) hx hb htt iw_Model hown hK hP 0 rfl rfl 17 (by decide) (htt _ lk_Model_179) (fun _ h9 => h9) rfl d_Model_move_74 ?_
        refine lv_iload_n hx hb d_Model_move_77 rfl (lv_at hl 0 rfl) ?_
        have h_12 : vp_in 0 90000 := vp_in_iff.mpr (by decide +kernel)
        refine va_iald hx hb hK hP 1 0 rfl rfl h_12 d_Model_move_78 ?_
        refine lv_topi (fun x_13 ex_13 => ?_)
        obtain rfl : x_13 = 0 := by rw [ex_13]; rfl
        clear ex_13
        have hPc := hP.sub (ws' := []) [] rfl
        have hDc := hD.sub (ws' := []) [] (by decide) rfl
        have hKc := hK.sub (tys' := []) [] rfl
        have hFc := va_free (wc := []) hD hS hA [] rfl
        refine va_calll (va_runS (As := [.int 0]) (rest := []) ⟨hx, hb, hml, hown, hts⟩ (c_Model_listValue l dC dI H.size 0) (va_cwS 1 hts (tw_GS tw_cons cw_Model_listValue lk_Model_53 st_Model_listValue ini_Model) rfl rfl rfl (by decide +kernel) ⟨Nat.le_of_ble_eq_true rfl, Nat.le_of_ble_eq_true rfl⟩) ⟨fun a U g mk q => by obtain ⟨q0, q1, qP, qK, qD⟩ := q; exact ⟨q0, q1, qP, va_K.moved (u := U) (U := U.calling g mk a) (Vm.Alike.refl U.vm) qK, qD⟩, fun U hU hW => ⟨rfl, by rw [hU], by rw [hU]; exact hPc, va_K.moved hW.alike hKc, hDc.weaken (fun _ _ _ _ => trivial)⟩⟩ rfl rfl hl.1 rfl (lv_room (Nat.le_of_ble_eq_true rfl)) d_Model_move_79 ⟨Nat.le_of_ble_eq_true rfl, Nat.le_of_ble_eq_true rfl⟩) hS (fun q _ h => hFc q h) hFc (fun r9 u9 t9 H1 locs ht hvm e9 hB hz1 hk1 hS => ?_)
        obtain ⟨hP1, hK1, hD1⟩ := hB
        rw [ht] at hP1
        obtain ⟨hP, hD⟩ := va_join (wr := [(h0, .inr (12, mo v_r (upd (upd (upd (upd (upd (upd (upd (upd (upd (upd (upd (upd (upd (mi0 sd) 0 0) 75 0) 76 ((-1))) 81 0) 84 0) 85 0) 74 0) 21 1) 67 0) 68 0) 69 0) 70 0) 70 1) (fun _ => 0))), (v_r 17, .inl (cI, 90000, .inl (upd (upd (fun _ => 0) (0 : Int32).toNatClampNeg ((-1))) (0 : Int32).toNatClampNeg 0))), (v_r 71, .inl (cI, 90000, .inl (upd (fun _ => 0) (0 : Int32).toNatClampNeg 0)))]) (w1 := []) hP hD [] [0, 1, 2] rfl rfl (by decide) (by decide) hk1 hFc hP1 hD1
        subst e9
        clear hP1 hD1 hK1 hvm hz1 hk1 hFc hKc hDc hPc
        subst ht
        generalize t9.heap = H at hP hS ⊢
        have hP : va_P (dC, dI) classes [(h0, .inr (12, mo v_r (upd (upd (upd (upd (upd (upd (upd (upd (upd (upd (upd (upd (upd (mi0 sd) 0 0) 75 0) 76 ((-1))) 81 0) 84 0) 85 0) 74 0) 21 1) 67 0) 68 0) 69 0) 70 0) 70 1) (fun _ => 0))), (v_r 17, .inl (cI, 90000, .inl (upd (upd (fun _ => 0) (0 : Int32).toNatClampNeg ((-1))) (0 : Int32).toNatClampNeg 0))), (v_r 71, .inl (cI, 90000, .inl (upd (fun _ => 0) (0 : Int32).toNatClampNeg 0)))] H := hP
        have hD : va_D A [(h0, .inr (12, mo v_r (upd (upd (upd (upd (upd (upd (upd (upd (upd (upd (upd (upd (upd (mi0 sd) 0 0) 75 0) 76 ((-1))) 81 0) 84 0) 85 0) 74 0) 21 1) 67 0) 68 0) 69 0) 70 0) 70 1) (fun _ => 0))), (v_r 17, .inl (cI, 90000, .inl (upd (upd (fun _ => 0) (0 : Int32).toNatClampNeg ((-1))) (0 : Int32).toNatClampNeg 0))), (v_r 71, .inl (cI, 90000, .inl (upd (fun _ => 0) (0 : Int32).toNatClampNeg 0)))] := hD
        refine lv_topl (fun x_14 ex_14 => ?_)
        obtain rfl : x_14 = 2 := by rw [ex_14]; decide
        clear ex_14
        have hP9 := hP.sub (ws' := [(h0, .inr (12, mo v_r (upd (upd (upd (upd (upd (upd (upd (upd (upd (upd (upd (upd (upd (mi0 sd) 0 0) 75 0) 76 ((-1))) 81 0) 84 0) 85 0) 74 0) 21 1) 67 0) 68 0) 69 0) 70 0) 70 1) (fun _ => 0))), (v_r 17, .inl (cI, 90000, .inl (upd (upd (fun _ => 0) (0 : Int32).toNatClampNeg ((-1))) (0 : Int32).toNatClampNeg 0))), (v_r 71, .inl (cI, 90000, .inl (upd (fun _ => 0) (0 : Int32).toNatClampNeg 0)))]) [0, 1, 2] rfl
        have hD9 := hD.sub (ws' := [(h0, .inr (12, mo v_r (upd (upd (upd (upd (upd (upd (upd (upd (upd (upd (upd (upd (upd (mi0 sd) 0 0) 75 0) 76 ((-1))) 81 0) 84 0) 85 0) 74 0) 21 1) 67 0) 68 0) 69 0) 70 0) 70 1) (fun _ => 0))), (v_r 17, .inl (cI, 90000, .inl (upd (upd (fun _ => 0) (0 : Int32).toNatClampNeg ((-1))) (0 : Int32).toNatClampNeg 0))), (v_r 71, .inl (cI, 90000, .inl (upd (fun _ => 0) (0 : Int32).toNatClampNeg 0)))]) [0, 1, 2] (by decide) rfl
        exact W.lret (v := 2) hx hb hr (fun t9 ht hW => ⟨⟨2, (), rfl, rfl, by rw [ht]; exact hP9, va_K.moved hW.alike hK, hD9⟩, hS.F ht⟩) hS.2.2 d_Model_move_82
    · exact absurd c_4 (by decide)
  · exact absurd c_2 (by decide)

set_option maxHeartbeats 4000000 in
set_option maxRecDepth 100000 in
theorem c_Model_tidy_c1 (l : Launch) (dC : Nat → ClassId) (dI : Nat → Nat → Nat) (sz : Nat) (h0 : Nat) (v_r : Nat → Nat) (cI : ClassId) (cJ : ClassId) (cB : ClassId) (sd : Int32)  : Met l y_Model_tidy w_Model_tidy ({ frames := 3, cells := 0, slots := 0, locals := 65 }) (va_Pc [.ref h0, .long 2] (fun U => U.heap.size = sz ∧ va_P (dC, dI) classes [(h0, .inr (12, mo v_r (upd (upd (upd (upd (upd (upd (upd (upd (mi0 sd) 0 0) 75 0) 76 ((-1))) 81 0) 84 0) 85 0) 74 0) 21 1) (fun _ => 0))), (v_r 12, .inl (cI, 90000, .inl (upd (fun _ => 0) (0 : Int32).toNatClampNeg 0))), (v_r 13, .inl (cI, 90000, .inl (upd (fun _ => 0) (0 : Int32).toNatClampNeg 0))), (v_r 14, .inl (cI, 90000, .inl (upd (fun _ => 0) (0 : Int32).toNatClampNeg 1))), (v_r 17, .inl (cI, 90000, .inl (fun _ => 0))), (v_r 71, .inl (cI, 90000, .inl (fun _ => 0))), (v_r 15, .inl (cI, 90000, .inl (fun _ => 0))), (v_r 16, .inl (cI, 90000, .inl (fun _ => 0))), (v_r 72, .inl (cI, 90000, .inl (fun _ => 0))), (v_r 10, .inl (cJ, 90000, .inr (.inl (fun _ => 0)))), (v_r 11, .inl (cJ, 90000, .inr (.inl (fun _ => 0)))), (v_r 3, .inl (cI, 120000, .inl (fun _ => 0))), (v_r 5, .inl (cI, 120000, .inl (fun _ => 0))), (v_r 4, .inl (cI, 120000, .inl (fun _ => 0))), (v_r 6, .inl (cI, 120000, .inl (fun _ => 0))), (v_r 1, .inl (cB, 300000, .inl (fun _ => 0))), (v_r 2, .inl (cB, 300000, .inl (fun _ => 0)))] U.heap ∧ va_K (dC, dI) classes [(cI, .int), (cJ, .long), (cB, .byte)] U ∧ va_D (fun _ => True) [(h0, .inr (12, mo v_r (upd (upd (upd (upd (upd (upd (upd (upd (mi0 sd) 0 0) 75 0) 76 ((-1))) 81 0) 84 0) 85 0) 74 0) 21 1) (fun _ => 0))), (v_r 12, .inl (cI, 90000, .inl (upd (fun _ => 0) (0 : Int32).toNatClampNeg 0))), (v_r 13, .inl (cI, 90000, .inl (upd (fun _ => 0) (0 : Int32).toNatClampNeg 0))), (v_r 14, .inl (cI, 90000, .inl (upd (fun _ => 0) (0 : Int32).toNatClampNeg 1))), (v_r 17, .inl (cI, 90000, .inl (fun _ => 0))), (v_r 71, .inl (cI, 90000, .inl (fun _ => 0))), (v_r 15, .inl (cI, 90000, .inl (fun _ => 0))), (v_r 16, .inl (cI, 90000, .inl (fun _ => 0))), (v_r 72, .inl (cI, 90000, .inl (fun _ => 0))), (v_r 10, .inl (cJ, 90000, .inr (.inl (fun _ => 0)))), (v_r 11, .inl (cJ, 90000, .inr (.inl (fun _ => 0)))), (v_r 3, .inl (cI, 120000, .inl (fun _ => 0))), (v_r 5, .inl (cI, 120000, .inl (fun _ => 0))), (v_r 4, .inl (cI, 120000, .inl (fun _ => 0))), (v_r 6, .inl (cI, 120000, .inl (fun _ => 0))), (v_r 1, .inl (cB, 300000, .inl (fun _ => 0))), (v_r 2, .inl (cB, 300000, .inl (fun _ => 0)))])) (va_Ql (fun (r : Int64) (_ : Unit) => r = 2) (fun (_ : Unit) t => va_P (dC, dI) classes [(h0, .inr (12, mo v_r (upd (upd (upd (upd (upd (upd (upd (upd (upd (upd (upd (upd (upd (upd (upd (upd (upd (upd (mi0 sd) 0 0) 75 0) 76 ((-1))) 81 0) 84 0) 85 0) 74 0) 21 1) 67 0) 68 0) 69 0) 70 0) 70 1) 69 0) 19 0) 18 0) 20 0) 21 1) (fun _ => 0))), (v_r 12, .inl (cI, 90000, .inl (va_cpy (upd (fun _ => 0) (0 : Int32).toNatClampNeg 0) (upd (fun _ => 0) (0 : Int32).toNatClampNeg 0) (0 : Int32).toNatClampNeg (0 : Int32).toNatClampNeg (1 : Int32).toNatClampNeg))), (v_r 13, .inl (cI, 90000, .inl (va_cpy (upd (fun _ => 0) (0 : Int32).toNatClampNeg 0) (upd (fun _ => 0) (0 : Int32).toNatClampNeg 0) (0 : Int32).toNatClampNeg (0 : Int32).toNatClampNeg (1 : Int32).toNatClampNeg))), (v_r 14, .inl (cI, 90000, .inl (va_cpy (upd (fun _ => 0) (0 : Int32).toNatClampNeg 1) (upd (fun _ => 0) (0 : Int32).toNatClampNeg 1) (0 : Int32).toNatClampNeg (0 : Int32).toNatClampNeg (1 : Int32).toNatClampNeg))), (v_r 17, .inl (cI, 90000, .inl (upd (upd (fun _ => 0) (0 : Int32).toNatClampNeg ((-1))) (0 : Int32).toNatClampNeg 0))), (v_r 71, .inl (cI, 90000, .inl (upd (fun _ => 0) (0 : Int32).toNatClampNeg 0))), (v_r 15, .inl (cI, 90000, .inl (upd (fun _ => 0) (0 : Int32).toNatClampNeg 0))), (v_r 16, .inl (cI, 90000, .inl (upd (fun _ => 0) (0 : Int32).toNatClampNeg 0))), (v_r 72, .inl (cI, 90000, .inl (upd (fun _ => 0) (0 : Int32).toNatClampNeg 1))), (v_r 10, .inl (cJ, 90000, .inr (.inl (va_cpy (fun _ => 0) (fun _ => 0) (0 : Int32).toNatClampNeg (0 : Int32).toNatClampNeg (0 : Int32).toNatClampNeg)))), (v_r 11, .inl (cJ, 90000, .inr (.inl (fun _ => 0)))), (v_r 3, .inl (cI, 120000, .inl (va_cpy (fun _ => 0) (fun _ => 0) (0 : Int32).toNatClampNeg (0 : Int32).toNatClampNeg (0 : Int32).toNatClampNeg))), (v_r 5, .inl (cI, 120000, .inl (fun _ => 0))), (v_r 4, .inl (cI, 120000, .inl (va_cpy (fun _ => 0) (fun _ => 0) (0 : Int32).toNatClampNeg (0 : Int32).toNatClampNeg (0 : Int32).toNatClampNeg))), (v_r 6, .inl (cI, 120000, .inl (fun _ => 0))), (v_r 1, .inl (cB, 300000, .inl (va_cpy (fun _ => 0) (fun _ => 0) (0 : Int32).toNatClampNeg (0 : Int32).toNatClampNeg (0 : Int32).toNatClampNeg))), (v_r 2, .inl (cB, 300000, .inl (fun _ => 0)))] t.heap ∧ va_K (dC, dI) classes [(cI, .int), (cJ, .long), (cB, .byte)] t ∧ va_D (va_A [(h0, .inr (12, mo v_r (upd (upd (upd (upd (upd (upd (upd (upd (mi0 sd) 0 0) 75 0) 76 ((-1))) 81 0) 84 0) 85 0) 74 0) 21 1) (fun _ => 0))), (v_r 12, .inl (cI, 90000, .inl (upd (fun _ => 0) (0 : Int32).toNatClampNeg 0))), (v_r 13, .inl (cI, 90000, .inl (upd (fun _ => 0) (0 : Int32).toNatClampNeg 0))), (v_r 14, .inl (cI, 90000, .inl (upd (fun _ => 0) (0 : Int32).toNatClampNeg 1))), (v_r 17, .inl (cI, 90000, .inl (fun _ => 0))), (v_r 71, .inl (cI, 90000, .inl (fun _ => 0))), (v_r 15, .inl (cI, 90000, .inl (fun _ => 0))), (v_r 16, .inl (cI, 90000, .inl (fun _ => 0))), (v_r 72, .inl (cI, 90000, .inl (fun _ => 0))), (v_r 10, .inl (cJ, 90000, .inr (.inl (fun _ => 0)))), (v_r 11, .inl (cJ, 90000, .inr (.inl (fun _ => 0)))), (v_r 3, .inl (cI, 120000, .inl (fun _ => 0))), (v_r 5, .inl (cI, 120000, .inl (fun _ => 0))), (v_r 4, .inl (cI, 120000, .inl (fun _ => 0))), (v_r 6, .inl (cI, 120000, .inl (fun _ => 0))), (v_r 1, .inl (cB, 300000, .inl (fun _ => 0))), (v_r 2, .inl (cB, 300000, .inl (fun _ => 0)))] sz) [(h0, .inr (12, mo v_r (upd (upd (upd (upd (upd (upd (upd (upd (upd (upd (upd (upd (upd (upd (upd (upd (upd (upd (mi0 sd) 0 0) 75 0) 76 ((-1))) 81 0) 84 0) 85 0) 74 0) 21 1) 67 0) 68 0) 69 0) 70 0) 70 1) 69 0) 19 0) 18 0) 20 0) 21 1) (fun _ => 0))), (v_r 12, .inl (cI, 90000, .inl (va_cpy (upd (fun _ => 0) (0 : Int32).toNatClampNeg 0) (upd (fun _ => 0) (0 : Int32).toNatClampNeg 0) (0 : Int32).toNatClampNeg (0 : Int32).toNatClampNeg (1 : Int32).toNatClampNeg))), (v_r 13, .inl (cI, 90000, .inl (va_cpy (upd (fun _ => 0) (0 : Int32).toNatClampNeg 0) (upd (fun _ => 0) (0 : Int32).toNatClampNeg 0) (0 : Int32).toNatClampNeg (0 : Int32).toNatClampNeg (1 : Int32).toNatClampNeg))), (v_r 14, .inl (cI, 90000, .inl (va_cpy (upd (fun _ => 0) (0 : Int32).toNatClampNeg 1) (upd (fun _ => 0) (0 : Int32).toNatClampNeg 1) (0 : Int32).toNatClampNeg (0 : Int32).toNatClampNeg (1 : Int32).toNatClampNeg))), (v_r 17, .inl (cI, 90000, .inl (upd (upd (fun _ => 0) (0 : Int32).toNatClampNeg ((-1))) (0 : Int32).toNatClampNeg 0))), (v_r 71, .inl (cI, 90000, .inl (upd (fun _ => 0) (0 : Int32).toNatClampNeg 0))), (v_r 15, .inl (cI, 90000, .inl (upd (fun _ => 0) (0 : Int32).toNatClampNeg 0))), (v_r 16, .inl (cI, 90000, .inl (upd (fun _ => 0) (0 : Int32).toNatClampNeg 0))), (v_r 72, .inl (cI, 90000, .inl (upd (fun _ => 0) (0 : Int32).toNatClampNeg 1))), (v_r 10, .inl (cJ, 90000, .inr (.inl (va_cpy (fun _ => 0) (fun _ => 0) (0 : Int32).toNatClampNeg (0 : Int32).toNatClampNeg (0 : Int32).toNatClampNeg)))), (v_r 11, .inl (cJ, 90000, .inr (.inl (fun _ => 0)))), (v_r 3, .inl (cI, 120000, .inl (va_cpy (fun _ => 0) (fun _ => 0) (0 : Int32).toNatClampNeg (0 : Int32).toNatClampNeg (0 : Int32).toNatClampNeg))), (v_r 5, .inl (cI, 120000, .inl (fun _ => 0))), (v_r 4, .inl (cI, 120000, .inl (va_cpy (fun _ => 0) (fun _ => 0) (0 : Int32).toNatClampNeg (0 : Int32).toNatClampNeg (0 : Int32).toNatClampNeg))), (v_r 6, .inl (cI, 120000, .inl (fun _ => 0))), (v_r 1, .inl (cB, 300000, .inl (va_cpy (fun _ => 0) (fun _ => 0) (0 : Int32).toNatClampNeg (0 : Int32).toNatClampNeg (0 : Int32).toNatClampNeg))), (v_r 2, .inl (cB, 300000, .inl (fun _ => 0)))]) (va_A [(h0, .inr (12, mo v_r (upd (upd (upd (upd (upd (upd (upd (upd (mi0 sd) 0 0) 75 0) 76 ((-1))) 81 0) 84 0) 85 0) 74 0) 21 1) (fun _ => 0))), (v_r 12, .inl (cI, 90000, .inl (upd (fun _ => 0) (0 : Int32).toNatClampNeg 0))), (v_r 13, .inl (cI, 90000, .inl (upd (fun _ => 0) (0 : Int32).toNatClampNeg 0))), (v_r 14, .inl (cI, 90000, .inl (upd (fun _ => 0) (0 : Int32).toNatClampNeg 1))), (v_r 17, .inl (cI, 90000, .inl (fun _ => 0))), (v_r 71, .inl (cI, 90000, .inl (fun _ => 0))), (v_r 15, .inl (cI, 90000, .inl (fun _ => 0))), (v_r 16, .inl (cI, 90000, .inl (fun _ => 0))), (v_r 72, .inl (cI, 90000, .inl (fun _ => 0))), (v_r 10, .inl (cJ, 90000, .inr (.inl (fun _ => 0)))), (v_r 11, .inl (cJ, 90000, .inr (.inl (fun _ => 0)))), (v_r 3, .inl (cI, 120000, .inl (fun _ => 0))), (v_r 5, .inl (cI, 120000, .inl (fun _ => 0))), (v_r 4, .inl (cI, 120000, .inl (fun _ => 0))), (v_r 6, .inl (cI, 120000, .inl (fun _ => 0))), (v_r 1, .inl (cB, 300000, .inl (fun _ => 0))), (v_r 2, .inl (cB, 300000, .inl (fun _ => 0)))] sz)) 0 0 (va_A [(h0, .inr (12, mo v_r (upd (upd (upd (upd (upd (upd (upd (upd (mi0 sd) 0 0) 75 0) 76 ((-1))) 81 0) 84 0) 85 0) 74 0) 21 1) (fun _ => 0))), (v_r 12, .inl (cI, 90000, .inl (upd (fun _ => 0) (0 : Int32).toNatClampNeg 0))), (v_r 13, .inl (cI, 90000, .inl (upd (fun _ => 0) (0 : Int32).toNatClampNeg 0))), (v_r 14, .inl (cI, 90000, .inl (upd (fun _ => 0) (0 : Int32).toNatClampNeg 1))), (v_r 17, .inl (cI, 90000, .inl (fun _ => 0))), (v_r 71, .inl (cI, 90000, .inl (fun _ => 0))), (v_r 15, .inl (cI, 90000, .inl (fun _ => 0))), (v_r 16, .inl (cI, 90000, .inl (fun _ => 0))), (v_r 72, .inl (cI, 90000, .inl (fun _ => 0))), (v_r 10, .inl (cJ, 90000, .inr (.inl (fun _ => 0)))), (v_r 11, .inl (cJ, 90000, .inr (.inl (fun _ => 0)))), (v_r 3, .inl (cI, 120000, .inl (fun _ => 0))), (v_r 5, .inl (cI, 120000, .inl (fun _ => 0))), (v_r 4, .inl (cI, 120000, .inl (fun _ => 0))), (v_r 6, .inl (cI, 120000, .inl (fun _ => 0))), (v_r 1, .inl (cB, 300000, .inl (fun _ => 0))), (v_r 2, .inl (cB, 300000, .inl (fun _ => 0)))] sz) := by
  refine Met.ofW (cc := b_Model_tidy) (maxL := 8) (ret := (some .long)) (by decide) rfl ?_
  intro p e s m args below meth c s₁ B hml hv
  obtain ⟨rfl, hsz, hP, hK, hD0⟩ := hv
  have hx := B.exec
  have hb := B.bytes
  have hr := B.returns
  have hts := atoms_spec (ws := w_Model_tidy) B.pre
  have htt : ∀ w ∈ tw_T, w.before _ s = true := fun w h => hts w (List.mem_cons_of_mem _ h)
  have hown : s.vm.findClass R_Model = some m.cls := findClass_of_methodNamed B.named
  have hlocks := B.notSynchronized
  subst hsz
  have hD := hD0.self (sz := s.heap.size)
  generalize hAe : va_A [(h0, .inr (12, mo v_r (upd (upd (upd (upd (upd (upd (upd (upd (mi0 sd) 0 0) 75 0) 76 ((-1))) 81 0) 84 0) 85 0) 74 0) 21 1) (fun _ => 0))), (v_r 12, .inl (cI, 90000, .inl (upd (fun _ => 0) (0 : Int32).toNatClampNeg 0))), (v_r 13, .inl (cI, 90000, .inl (upd (fun _ => 0) (0 : Int32).toNatClampNeg 0))), (v_r 14, .inl (cI, 90000, .inl (upd (fun _ => 0) (0 : Int32).toNatClampNeg 1))), (v_r 17, .inl (cI, 90000, .inl (fun _ => 0))), (v_r 71, .inl (cI, 90000, .inl (fun _ => 0))), (v_r 15, .inl (cI, 90000, .inl (fun _ => 0))), (v_r 16, .inl (cI, 90000, .inl (fun _ => 0))), (v_r 72, .inl (cI, 90000, .inl (fun _ => 0))), (v_r 10, .inl (cJ, 90000, .inr (.inl (fun _ => 0)))), (v_r 11, .inl (cJ, 90000, .inr (.inl (fun _ => 0)))), (v_r 3, .inl (cI, 120000, .inl (fun _ => 0))), (v_r 5, .inl (cI, 120000, .inl (fun _ => 0))), (v_r 4, .inl (cI, 120000, .inl (fun _ => 0))), (v_r 6, .inl (cI, 120000, .inl (fun _ => 0))), (v_r 1, .inl (cB, 300000, .inl (fun _ => 0))), (v_r 2, .inl (cB, 300000, .inl (fun _ => 0)))] s.heap.size = A at hD ⊢
  have hA : ∀ q : Nat, s.heap.size ≤ q → A q := fun q h => by rw [← hAe]; exact Or.inr h
  have hS : va_S A s.heap s.heap [] := va_S.rf
  have hP : va_P (dC, dI) classes [(h0, .inr (12, mo v_r (upd (upd (upd (upd (upd (upd (upd (upd (mi0 sd) 0 0) 75 0) 76 ((-1))) 81 0) 84 0) 85 0) 74 0) 21 1) (fun _ => 0))), (v_r 12, .inl (cI, 90000, .inl (upd (fun _ => 0) (0 : Int32).toNatClampNeg 0))), (v_r 13, .inl (cI, 90000, .inl (upd (fun _ => 0) (0 : Int32).toNatClampNeg 0))), (v_r 14, .inl (cI, 90000, .inl (upd (fun _ => 0) (0 : Int32).toNatClampNeg 1))), (v_r 17, .inl (cI, 90000, .inl (fun _ => 0))), (v_r 71, .inl (cI, 90000, .inl (fun _ => 0))), (v_r 15, .inl (cI, 90000, .inl (fun _ => 0))), (v_r 16, .inl (cI, 90000, .inl (fun _ => 0))), (v_r 72, .inl (cI, 90000, .inl (fun _ => 0))), (v_r 10, .inl (cJ, 90000, .inr (.inl (fun _ => 0)))), (v_r 11, .inl (cJ, 90000, .inr (.inl (fun _ => 0)))), (v_r 3, .inl (cI, 120000, .inl (fun _ => 0))), (v_r 5, .inl (cI, 120000, .inl (fun _ => 0))), (v_r 4, .inl (cI, 120000, .inl (fun _ => 0))), (v_r 6, .inl (cI, 120000, .inl (fun _ => 0))), (v_r 1, .inl (cB, 300000, .inl (fun _ => 0))), (v_r 2, .inl (cB, 300000, .inl (fun _ => 0)))] s.heap := hP
  have hl := lv_entry ([.ref h0, .long 2]) (n := 8) (Nat.le_of_ble_eq_true rfl)
  rw [lg_entry_eq]
  generalize (lg_sl ([.ref h0, .long 2]) ++ List.replicate (8 - (lg_sl ([.ref h0, .long 2])).length) Slot.unset).toArray = ls at hl ⊢
  have hl : lv_has ls 8 [(0, .ref h0), (1, .long 2)] := hl
  refine lv_iconst (v := 0) hx hb d_Model_tidy_0 (by decide) ?_
  refine lv_istore_n (lv' := [(3, .int 0), (0, .ref h0), (1, .long 2)]) hx hb d_Model_tidy_1 rfl hl (by decide) rfl (fun ls hl => ?_)
  refine lv_iload_n hx hb d_Model_tidy_2 rfl (lv_at hl 0 rfl) ?_
  refine lv_aload_n hx hb d_Model_tidy_3 rfl (lv_at hl 1 rfl) ?_
  refine va_get (D := (dC, dI)) (ci := 12) (v := .int 0) (C := R_Model) (T := F_Model) (N := 127) hx hb htt iw_Model hown hK hP 0 rfl rfl 19 (by decide) (htt _ lk_Model_19) (fun _ h9 => h9) rfl d_Model_tidy_4 ?_
  refine lv_icmp_ge (tgt := 23) hx hb d_Model_tidy_7 (by decide) (fun c_1 => ?_) (fun c_1 => ?_)
  · refine lv_iconst (v := 0) hx hb d_Model_tidy_23 (by decide) ?_
    refine lv_istore_n (lv' := [(3, .int 0), (0, .ref h0), (1, .long 2)]) hx hb d_Model_tidy_24 rfl hl (by decide) rfl (fun ls hl => ?_)
    refine lv_iload_n hx hb d_Model_tidy_25 rfl (lv_at hl 0 rfl) ?_
    refine lv_aload_n hx hb d_Model_tidy_26 rfl (lv_at hl 1 rfl) ?_
    refine va_get (D := (dC, dI)) (ci := 12) (v := .int 1) (C := R_Model) (T := F_Model) (N := 127) hx hb htt iw_Model hown hK hP 0 rfl rfl 21 (by decide) (htt _ lk_Model_44) (fun _ h9 => h9) rfl d_Model_tidy_27 ?_
    refine lv_icmp_ge (tgt := 46) hx hb d_Model_tidy_30 (by decide) (fun c_2 => ?_) (fun c_2 => ?_)
    · exact absurd c_2 (by decide)
    · refine lv_aload_n hx hb d_Model_tidy_33 rfl (lv_at hl 1 rfl) ?_
      refine va_get (D := (dC, dI)) (ci := 12) (v := .ref (v_r 17)) (C := R_Model) (T := F_Model) (N := 127) hx hb htt iw_Model hown hK hP 0 rfl rfl 17 (by decide) (htt _ lk_Model_179) (fun _ h9 => h9) rfl d_Model_tidy_34 ?_
      refine lv_iload_n hx hb d_Model_tidy_37 rfl (lv_at hl 0 rfl) ?_
      refine lv_iconst (v := -1) hx hb d_Model_tidy_38 (by decide) ?_
      have h_3 : vp_in 0 90000 := vp_in_iff.mpr (by decide +kernel)
      refine va_iast hx hb hK hP hD hS 4 0 rfl rfl h_3 d_Model_tidy_39 (fun H locs hP hD hS => ?_)
      have hP : va_P (dC, dI) classes [(h0, .inr (12, mo v_r (upd (upd (upd (upd (upd (upd (upd (upd (mi0 sd) 0 0) 75 0) 76 ((-1))) 81 0) 84 0) 85 0) 74 0) 21 1) (fun _ => 0))), (v_r 12, .inl (cI, 90000, .inl (upd (fun _ => 0) (0 : Int32).toNatClampNeg 0))), (v_r 13, .inl (cI, 90000, .inl (upd (fun _ => 0) (0 : Int32).toNatClampNeg 0))), (v_r 14, .inl (cI, 90000, .inl (upd (fun _ => 0) (0 : Int32).toNatClampNeg 1))), (v_r 17, .inl (cI, 90000, .inl (upd (fun _ => 0) (0 : Int32).toNatClampNeg ((-1))))), (v_r 71, .inl (cI, 90000, .inl (fun _ => 0))), (v_r 15, .inl (cI, 90000, .inl (fun _ => 0))), (v_r 16, .inl (cI, 90000, .inl (fun _ => 0))), (v_r 72, .inl (cI, 90000, .inl (fun _ => 0))), (v_r 10, .inl (cJ, 90000, .inr (.inl (fun _ => 0)))), (v_r 11, .inl (cJ, 90000, .inr (.inl (fun _ => 0)))), (v_r 3, .inl (cI, 120000, .inl (fun _ => 0))), (v_r 5, .inl (cI, 120000, .inl (fun _ => 0))), (v_r 4, .inl (cI, 120000, .inl (fun _ => 0))), (v_r 6, .inl (cI, 120000, .inl (fun _ => 0))), (v_r 1, .inl (cB, 300000, .inl (fun _ => 0))), (v_r 2, .inl (cB, 300000, .inl (fun _ => 0)))] H := hP
      have hD : va_D A [(h0, .inr (12, mo v_r (upd (upd (upd (upd (upd (upd (upd (upd (mi0 sd) 0 0) 75 0) 76 ((-1))) 81 0) 84 0) 85 0) 74 0) 21 1) (fun _ => 0))), (v_r 12, .inl (cI, 90000, .inl (upd (fun _ => 0) (0 : Int32).toNatClampNeg 0))), (v_r 13, .inl (cI, 90000, .inl (upd (fun _ => 0) (0 : Int32).toNatClampNeg 0))), (v_r 14, .inl (cI, 90000, .inl (upd (fun _ => 0) (0 : Int32).toNatClampNeg 1))), (v_r 17, .inl (cI, 90000, .inl (upd (fun _ => 0) (0 : Int32).toNatClampNeg ((-1))))), (v_r 71, .inl (cI, 90000, .inl (fun _ => 0))), (v_r 15, .inl (cI, 90000, .inl (fun _ => 0))), (v_r 16, .inl (cI, 90000, .inl (fun _ => 0))), (v_r 72, .inl (cI, 90000, .inl (fun _ => 0))), (v_r 10, .inl (cJ, 90000, .inr (.inl (fun _ => 0)))), (v_r 11, .inl (cJ, 90000, .inr (.inl (fun _ => 0)))), (v_r 3, .inl (cI, 120000, .inl (fun _ => 0))), (v_r 5, .inl (cI, 120000, .inl (fun _ => 0))), (v_r 4, .inl (cI, 120000, .inl (fun _ => 0))), (v_r 6, .inl (cI, 120000, .inl (fun _ => 0))), (v_r 1, .inl (cB, 300000, .inl (fun _ => 0))), (v_r 2, .inl (cB, 300000, .inl (fun _ => 0)))] := hD
      refine lv_iinc (v := 1) (lv' := [(3, .int 1), (0, .ref h0), (1, .long 2)]) hx hb d_Model_tidy_40 hl (k := 0) rfl (by decide) (by decide) rfl (fun ls hl => ?_)
      refine lv_goto (tgt := 25) hx hb d_Model_tidy_43 (by decide) ?_
      refine lv_iload_n hx hb d_Model_tidy_25 rfl (lv_at hl 0 rfl) ?_
      refine lv_aload_n hx hb d_Model_tidy_26 rfl (lv_at hl 1 rfl) ?_
      refine va_get (D := (dC, dI)) (ci := 12) (v := .int 1) (C := R_Model) (T := F_Model) (N := 127) hx hb htt iw_Model hown hK hP 0 rfl rfl 21 (by decide) (htt _ lk_Model_44) (fun _ h9 => h9) rfl d_Model_tidy_27 ?_
      refine lv_icmp_ge (tgt := 46) hx hb d_Model_tidy_30 (by decide) (fun c_4 => ?_) (fun c_4 => ?_)
      · refine lv_aload_n hx hb d_Model_tidy_46 rfl (lv_at hl 1 rfl) ?_
        refine lv_iconst (v := 0) hx hb d_Model_tidy_47 (by decide) ?_
        refine va_put (D := (dC, dI)) (ci := 12) (v := .int 0) (ty := .int) (C := R_Model) (T := F_Model) (N := 127) hx hb htt iw_Model t_Model t_Model_ok n_Model hown hK hP hD hS 0 rfl rfl 67 (by decide) (htt _ lk_Model_390) (fun _ h9 => h9) rfl (by decide +kernel) rfl rfl (Nat.le_of_ble_eq_true rfl) d_Model_tidy_48 (fun H locs hP hD hS => ?_)
        have hP : va_P (dC, dI) classes [(h0, .inr (12, mo v_r (upd (upd (upd (upd (upd (upd (upd (upd (upd (mi0 sd) 0 0) 75 0) 76 ((-1))) 81 0) 84 0) 85 0) 74 0) 21 1) 67 0) (fun _ => 0))), (v_r 12, .inl (cI, 90000, .inl (upd (fun _ => 0) (0 : Int32).toNatClampNeg 0))), (v_r 13, .inl (cI, 90000, .inl (upd (fun _ => 0) (0 : Int32).toNatClampNeg 0))), (v_r 14, .inl (cI, 90000, .inl (upd (fun _ => 0) (0 : Int32).toNatClampNeg 1))), (v_r 17, .inl (cI, 90000, .inl (upd (fun _ => 0) (0 : Int32).toNatClampNeg ((-1))))), (v_r 71, .inl (cI, 90000, .inl (fun _ => 0))), (v_r 15, .inl (cI, 90000, .inl (fun _ => 0))), (v_r 16, .inl (cI, 90000, .inl (fun _ => 0))), (v_r 72, .inl (cI, 90000, .inl (fun _ => 0))), (v_r 10, .inl (cJ, 90000, .inr (.inl (fun _ => 0)))), (v_r 11, .inl (cJ, 90000, .inr (.inl (fun _ => 0)))), (v_r 3, .inl (cI, 120000, .inl (fun _ => 0))), (v_r 5, .inl (cI, 120000, .inl (fun _ => 0))), (v_r 4, .inl (cI, 120000, .inl (fun _ => 0))), (v_r 6, .inl (cI, 120000, .inl (fun _ => 0))), (v_r 1, .inl (cB, 300000, .inl (fun _ => 0))), (v_r 2, .inl (cB, 300000, .inl (fun _ => 0)))] H := hP
        have hD : va_D A [(h0, .inr (12, mo v_r (upd (upd (upd (upd (upd (upd (upd (upd (upd (mi0 sd) 0 0) 75 0) 76 ((-1))) 81 0) 84 0) 85 0) 74 0) 21 1) 67 0) (fun _ => 0))), (v_r 12, .inl (cI, 90000, .inl (upd (fun _ => 0) (0 : Int32).toNatClampNeg 0))), (v_r 13, .inl (cI, 90000, .inl (upd (fun _ => 0) (0 : Int32).toNatClampNeg 0))), (v_r 14, .inl (cI, 90000, .inl (upd (fun _ => 0) (0 : Int32).toNatClampNeg 1))), (v_r 17, .inl (cI, 90000, .inl (upd (fun _ => 0) (0 : Int32).toNatClampNeg ((-1))))), (v_r 71, .inl (cI, 90000, .inl (fun _ => 0))), (v_r 15, .inl (cI, 90000, .inl (fun _ => 0))), (v_r 16, .inl (cI, 90000, .inl (fun _ => 0))), (v_r 72, .inl (cI, 90000, .inl (fun _ => 0))), (v_r 10, .inl (cJ, 90000, .inr (.inl (fun _ => 0)))), (v_r 11, .inl (cJ, 90000, .inr (.inl (fun _ => 0)))), (v_r 3, .inl (cI, 120000, .inl (fun _ => 0))), (v_r 5, .inl (cI, 120000, .inl (fun _ => 0))), (v_r 4, .inl (cI, 120000, .inl (fun _ => 0))), (v_r 6, .inl (cI, 120000, .inl (fun _ => 0))), (v_r 1, .inl (cB, 300000, .inl (fun _ => 0))), (v_r 2, .inl (cB, 300000, .inl (fun _ => 0)))] := hD
        refine lv_aload_n hx hb d_Model_tidy_51 rfl (lv_at hl 1 rfl) ?_
        refine lv_iconst (v := 0) hx hb d_Model_tidy_52 (by decide) ?_
        refine va_put (D := (dC, dI)) (ci := 12) (v := .int 0) (ty := .int) (C := R_Model) (T := F_Model) (N := 127) hx hb htt iw_Model t_Model t_Model_ok n_Model hown hK hP hD hS 0 rfl rfl 68 (by decide) (htt _ lk_Model_387) (fun _ h9 => h9) rfl (by decide +kernel) rfl rfl (Nat.le_of_ble_eq_true rfl) d_Model_tidy_53 (fun H locs hP hD hS => ?_)
        have hP : va_P (dC, dI) classes [(h0, .inr (12, mo v_r (upd (upd (upd (upd (upd (upd (upd (upd (upd (upd (mi0 sd) 0 0) 75 0) 76 ((-1))) 81 0) 84 0) 85 0) 74 0) 21 1) 67 0) 68 0) (fun _ => 0))), (v_r 12, .inl (cI, 90000, .inl (upd (fun _ => 0) (0 : Int32).toNatClampNeg 0))), (v_r 13, .inl (cI, 90000, .inl (upd (fun _ => 0) (0 : Int32).toNatClampNeg 0))), (v_r 14, .inl (cI, 90000, .inl (upd (fun _ => 0) (0 : Int32).toNatClampNeg 1))), (v_r 17, .inl (cI, 90000, .inl (upd (fun _ => 0) (0 : Int32).toNatClampNeg ((-1))))), (v_r 71, .inl (cI, 90000, .inl (fun _ => 0))), (v_r 15, .inl (cI, 90000, .inl (fun _ => 0))), (v_r 16, .inl (cI, 90000, .inl (fun _ => 0))), (v_r 72, .inl (cI, 90000, .inl (fun _ => 0))), (v_r 10, .inl (cJ, 90000, .inr (.inl (fun _ => 0)))), (v_r 11, .inl (cJ, 90000, .inr (.inl (fun _ => 0)))), (v_r 3, .inl (cI, 120000, .inl (fun _ => 0))), (v_r 5, .inl (cI, 120000, .inl (fun _ => 0))), (v_r 4, .inl (cI, 120000, .inl (fun _ => 0))), (v_r 6, .inl (cI, 120000, .inl (fun _ => 0))), (v_r 1, .inl (cB, 300000, .inl (fun _ => 0))), (v_r 2, .inl (cB, 300000, .inl (fun _ => 0)))] H := hP
        have hD : va_D A [(h0, .inr (12, mo v_r (upd (upd (upd (upd (upd (upd (upd (upd (upd (upd (mi0 sd) 0 0) 75 0) 76 ((-1))) 81 0) 84 0) 85 0) 74 0) 21 1) 67 0) 68 0) (fun _ => 0))), (v_r 12, .inl (cI, 90000, .inl (upd (fun _ => 0) (0 : Int32).toNatClampNeg 0))), (v_r 13, .inl (cI, 90000, .inl (upd (fun _ => 0) (0 : Int32).toNatClampNeg 0))), (v_r 14, .inl (cI, 90000, .inl (upd (fun _ => 0) (0 : Int32).toNatClampNeg 1))), (v_r 17, .inl (cI, 90000, .inl (upd (fun _ => 0) (0 : Int32).toNatClampNeg ((-1))))), (v_r 71, .inl (cI, 90000, .inl (fun _ => 0))), (v_r 15, .inl (cI, 90000, .inl (fun _ => 0))), (v_r 16, .inl (cI, 90000, .inl (fun _ => 0))), (v_r 72, .inl (cI, 90000, .inl (fun _ => 0))), (v_r 10, .inl (cJ, 90000, .inr (.inl (fun _ => 0)))), (v_r 11, .inl (cJ, 90000, .inr (.inl (fun _ => 0)))), (v_r 3, .inl (cI, 120000, .inl (fun _ => 0))), (v_r 5, .inl (cI, 120000, .inl (fun _ => 0))), (v_r 4, .inl (cI, 120000, .inl (fun _ => 0))), (v_r 6, .inl (cI, 120000, .inl (fun _ => 0))), (v_r 1, .inl (cB, 300000, .inl (fun _ => 0))), (v_r 2, .inl (cB, 300000, .inl (fun _ => 0)))] := hD
        refine lv_aload_n hx hb d_Model_tidy_56 rfl (lv_at hl 1 rfl) ?_
        refine lv_iconst (v := 0) hx hb d_Model_tidy_57 (by decide) ?_
        refine va_put (D := (dC, dI)) (ci := 12) (v := .int 0) (ty := .int) (C := R_Model) (T := F_Model) (N := 127) hx hb htt iw_Model t_Model t_Model_ok n_Model hown hK hP hD hS 0 rfl rfl 69 (by decide) (htt _ lk_Model_402) (fun _ h9 => h9) rfl (by decide +kernel) rfl rfl (Nat.le_of_ble_eq_true rfl) d_Model_tidy_58 (fun H locs hP hD hS => ?_)
        have hP : va_P (dC, dI) classes [(h0, .inr (12, mo v_r (upd (upd (upd (upd (upd (upd (upd (upd (upd (upd (upd (mi0 sd) 0 0) 75 0) 76 ((-1))) 81 0) 84 0) 85 0) 74 0) 21 1) 67 0) 68 0) 69 0) (fun _ => 0))), (v_r 12, .inl (cI, 90000, .inl (upd (fun _ => 0) (0 : Int32).toNatClampNeg 0))), (v_r 13, .inl (cI, 90000, .inl (upd (fun _ => 0) (0 : Int32).toNatClampNeg 0))), (v_r 14, .inl (cI, 90000, .inl (upd (fun _ => 0) (0 : Int32).toNatClampNeg 1))), (v_r 17, .inl (cI, 90000, .inl (upd (fun _ => 0) (0 : Int32).toNatClampNeg ((-1))))), (v_r 71, .inl (cI, 90000, .inl (fun _ => 0))), (v_r 15, .inl (cI, 90000, .inl (fun _ => 0))), (v_r 16, .inl (cI, 90000, .inl (fun _ => 0))), (v_r 72, .inl (cI, 90000, .inl (fun _ => 0))), (v_r 10, .inl (cJ, 90000, .inr (.inl (fun _ => 0)))), (v_r 11, .inl (cJ, 90000, .inr (.inl (fun _ => 0)))), (v_r 3, .inl (cI, 120000, .inl (fun _ => 0))), (v_r 5, .inl (cI, 120000, .inl (fun _ => 0))), (v_r 4, .inl (cI, 120000, .inl (fun _ => 0))), (v_r 6, .inl (cI, 120000, .inl (fun _ => 0))), (v_r 1, .inl (cB, 300000, .inl (fun _ => 0))), (v_r 2, .inl (cB, 300000, .inl (fun _ => 0)))] H := hP
        have hD : va_D A [(h0, .inr (12, mo v_r (upd (upd (upd (upd (upd (upd (upd (upd (upd (upd (upd (mi0 sd) 0 0) 75 0) 76 ((-1))) 81 0) 84 0) 85 0) 74 0) 21 1) 67 0) 68 0) 69 0) (fun _ => 0))), (v_r 12, .inl (cI, 90000, .inl (upd (fun _ => 0) (0 : Int32).toNatClampNeg 0))), (v_r 13, .inl (cI, 90000, .inl (upd (fun _ => 0) (0 : Int32).toNatClampNeg 0))), (v_r 14, .inl (cI, 90000, .inl (upd (fun _ => 0) (0 : Int32).toNatClampNeg 1))), (v_r 17, .inl (cI, 90000, .inl (upd (fun _ => 0) (0 : Int32).toNatClampNeg ((-1))))), (v_r 71, .inl (cI, 90000, .inl (fun _ => 0))), (v_r 15, .inl (cI, 90000, .inl (fun _ => 0))), (v_r 16, .inl (cI, 90000, .inl (fun _ => 0))), (v_r 72, .inl (cI, 90000, .inl (fun _ => 0))), (v_r 10, .inl (cJ, 90000, .inr (.inl (fun _ => 0)))), (v_r 11, .inl (cJ, 90000, .inr (.inl (fun _ => 0)))), (v_r 3, .inl (cI, 120000, .inl (fun _ => 0))), (v_r 5, .inl (cI, 120000, .inl (fun _ => 0))), (v_r 4, .inl (cI, 120000, .inl (fun _ => 0))), (v_r 6, .inl (cI, 120000, .inl (fun _ => 0))), (v_r 1, .inl (cB, 300000, .inl (fun _ => 0))), (v_r 2, .inl (cB, 300000, .inl (fun _ => 0)))] := hD
        refine lv_aload_n hx hb d_Model_tidy_61 rfl (lv_at hl 1 rfl) ?_
        refine lv_iconst (v := 0) hx hb d_Model_tidy_62 (by decide) ?_
        refine va_put (D := (dC, dI)) (ci := 12) (v := .int 0) (ty := .int) (C := R_Model) (T := F_Model) (N := 127) hx hb htt iw_Model t_Model t_Model_ok n_Model hown hK hP hD hS 0 rfl rfl 70 (by decide) (htt _ lk_Model_399) (fun _ h9 => h9) rfl (by decide +kernel) rfl rfl (Nat.le_of_ble_eq_true rfl) d_Model_tidy_63 (fun H locs hP hD hS => ?_)
        have hP : va_P (dC, dI) classes [(h0, .inr (12, mo v_r (upd (upd (upd (upd (upd (upd (upd (upd (upd (upd (upd (upd (mi0 sd) 0 0) 75 0) 76 ((-1))) 81 0) 84 0) 85 0) 74 0) 21 1) 67 0) 68 0) 69 0) 70 0) (fun _ => 0))), (v_r 12, .inl (cI, 90000, .inl (upd (fun _ => 0) (0 : Int32).toNatClampNeg 0))), (v_r 13, .inl (cI, 90000, .inl (upd (fun _ => 0) (0 : Int32).toNatClampNeg 0))), (v_r 14, .inl (cI, 90000, .inl (upd (fun _ => 0) (0 : Int32).toNatClampNeg 1))), (v_r 17, .inl (cI, 90000, .inl (upd (fun _ => 0) (0 : Int32).toNatClampNeg ((-1))))), (v_r 71, .inl (cI, 90000, .inl (fun _ => 0))), (v_r 15, .inl (cI, 90000, .inl (fun _ => 0))), (v_r 16, .inl (cI, 90000, .inl (fun _ => 0))), (v_r 72, .inl (cI, 90000, .inl (fun _ => 0))), (v_r 10, .inl (cJ, 90000, .inr (.inl (fun _ => 0)))), (v_r 11, .inl (cJ, 90000, .inr (.inl (fun _ => 0)))), (v_r 3, .inl (cI, 120000, .inl (fun _ => 0))), (v_r 5, .inl (cI, 120000, .inl (fun _ => 0))), (v_r 4, .inl (cI, 120000, .inl (fun _ => 0))), (v_r 6, .inl (cI, 120000, .inl (fun _ => 0))), (v_r 1, .inl (cB, 300000, .inl (fun _ => 0))), (v_r 2, .inl (cB, 300000, .inl (fun _ => 0)))] H := hP
        have hD : va_D A [(h0, .inr (12, mo v_r (upd (upd (upd (upd (upd (upd (upd (upd (upd (upd (upd (upd (mi0 sd) 0 0) 75 0) 76 ((-1))) 81 0) 84 0) 85 0) 74 0) 21 1) 67 0) 68 0) 69 0) 70 0) (fun _ => 0))), (v_r 12, .inl (cI, 90000, .inl (upd (fun _ => 0) (0 : Int32).toNatClampNeg 0))), (v_r 13, .inl (cI, 90000, .inl (upd (fun _ => 0) (0 : Int32).toNatClampNeg 0))), (v_r 14, .inl (cI, 90000, .inl (upd (fun _ => 0) (0 : Int32).toNatClampNeg 1))), (v_r 17, .inl (cI, 90000, .inl (upd (fun _ => 0) (0 : Int32).toNatClampNeg ((-1))))), (v_r 71, .inl (cI, 90000, .inl (fun _ => 0))), (v_r 15, .inl (cI, 90000, .inl (fun _ => 0))), (v_r 16, .inl (cI, 90000, .inl (fun _ => 0))), (v_r 72, .inl (cI, 90000, .inl (fun _ => 0))), (v_r 10, .inl (cJ, 90000, .inr (.inl (fun _ => 0)))), (v_r 11, .inl (cJ, 90000, .inr (.inl (fun _ => 0)))), (v_r 3, .inl (cI, 120000, .inl (fun _ => 0))), (v_r 5, .inl (cI, 120000, .inl (fun _ => 0))), (v_r 4, .inl (cI, 120000, .inl (fun _ => 0))), (v_r 6, .inl (cI, 120000, .inl (fun _ => 0))), (v_r 1, .inl (cB, 300000, .inl (fun _ => 0))), (v_r 2, .inl (cB, 300000, .inl (fun _ => 0)))] := hD
        refine lv_iconst (v := 0) hx hb d_Model_tidy_66 (by decide) ?_
        refine lv_istore_n (lv' := [(3, .int 0), (0, .ref h0), (1, .long 2)]) hx hb d_Model_tidy_67 rfl hl (by decide) rfl (fun ls hl => ?_)
        refine lv_iload_n hx hb d_Model_tidy_68 rfl (lv_at hl 0 rfl) ?_
        refine lv_aload_n hx hb d_Model_tidy_69 rfl (lv_at hl 1 rfl) ?_
        refine va_get (D := (dC, dI)) (ci := 12) (v := .int 0) (C := R_Model) (T := F_Model) (N := 127) hx hb htt iw_Model hown hK hP 0 rfl rfl 33 (by decide) (htt _ lk_Model_344) (fun _ h9 => h9) rfl d_Model_tidy_70 ?_
        refine lv_icmp_ge (tgt := 160) hx hb d_Model_tidy_73 (by decide) (fun c_5 => ?_) (fun c_5 => ?_)
        · refine lv_iconst (v := 0) hx hb d_Model_tidy_160 (by decide) ?_
          refine lv_istore_n (lv' := [(3, .int 0), (0, .ref h0), (1, .long 2)]) hx hb d_Model_tidy_161 rfl hl (by decide) rfl (fun ls hl => ?_)
          refine lv_iload_n hx hb d_Model_tidy_162 rfl (lv_at hl 0 rfl) ?_
          refine lv_aload_n hx hb d_Model_tidy_163 rfl (lv_at hl 1 rfl) ?_
          refine va_get (D := (dC, dI)) (ci := 12) (v := .int 0) (C := R_Model) (T := F_Model) (N := 127) hx hb htt iw_Model hown hK hP 0 rfl rfl 36 (by decide) (htt _ lk_Model_350) (fun _ h9 => h9) rfl d_Model_tidy_164 ?_
          refine lv_icmp_ge (tgt := 208) hx hb d_Model_tidy_167 (by decide) (fun c_6 => ?_) (fun c_6 => ?_)
          · refine lv_aload_n hx hb d_Model_tidy_208 rfl (lv_at hl 1 rfl) ?_
            refine lv_lload_n hx hb d_Model_tidy_209 rfl (lv_at hl 2 rfl) ?_
            have hPc := hP.sub (ws' := [(h0, .inr (12, mo v_r (upd (upd (upd (upd (upd (upd (upd (upd (upd (upd (upd (upd (mi0 sd) 0 0) 75 0) 76 ((-1))) 81 0) 84 0) 85 0) 74 0) 21 1) 67 0) 68 0) 69 0) 70 0) (fun _ => 0))), (v_r 17, .inl (cI, 90000, .inl (upd (fun _ => 0) (0 : Int32).toNatClampNeg ((-1))))), (v_r 71, .inl (cI, 90000, .inl (fun _ => 0)))]) [0, 4, 5] rfl
            have hDc := hD.sub (ws' := [(h0, .inr (12, mo v_r (upd (upd (upd (upd (upd (upd (upd (upd (upd (upd (upd (upd (mi0 sd) 0 0) 75 0) 76 ((-1))) 81 0) 84 0) 85 0) 74 0) 21 1) 67 0) 68 0) 69 0) 70 0) (fun _ => 0))), (v_r 17, .inl (cI, 90000, .inl (upd (fun _ => 0) (0 : Int32).toNatClampNeg ((-1))))), (v_r 71, .inl (cI, 90000, .inl (fun _ => 0)))]) [0, 4, 5] (by decide) rfl
            have hKc := hK.sub (tys' := [(cI, .int), (cJ, .long), (cB, .byte)]) [0, 1, 2] rfl
            have hFc := va_free (wc := [(h0, .inr (12, mo v_r (upd (upd (upd (upd (upd (upd (upd (upd (upd (upd (upd (upd (mi0 sd) 0 0) 75 0) 76 ((-1))) 81 0) 84 0) 85 0) 74 0) 21 1) 67 0) 68 0) 69 0) 70 0) (fun _ => 0))), (v_r 17, .inl (cI, 90000, .inl (upd (fun _ => 0) (0 : Int32).toNatClampNeg ((-1))))), (v_r 71, .inl (cI, 90000, .inl (fun _ => 0)))]) hD hS hA [0, 4, 5] rfl
            refine va_calll (va_runV (As := [.long 2]) (rest := []) ⟨hx, hb, hml, hown, hts⟩ (c_Model_move_c1 l dC dI H.size h0 v_r cI cJ cB sd) (cwV 1 hts (tw_GV tw_cons cw_Model_move lk_Model_405 in_Model_move sel_Model_move ini_Model) rfl rfl rfl (by decide +kernel) ⟨Nat.le_of_ble_eq_true rfl, Nat.le_of_ble_eq_true rfl⟩) ⟨fun a U g mk q => by obtain ⟨q0, q1, qP, qK, qD⟩ := q; exact ⟨q0, q1, qP, va_K.moved (u := U) (U := U.calling g mk a) (Vm.Alike.refl U.vm) qK, qD⟩, va_recv hKc hPc (ci := 12) (q0 := 0) rfl rfl, fun U hU hW => ⟨rfl, by rw [hU], by rw [hU]; exact hPc, va_K.moved hW.alike hKc, hDc.weaken (fun _ _ _ _ => trivial)⟩⟩ rfl rfl hl.1 rfl (lv_room (Nat.le_of_ble_eq_true rfl)) d_Model_tidy_210 ⟨Nat.le_of_ble_eq_true rfl, Nat.le_of_ble_eq_true rfl⟩) hS (fun q _ h => hFc q h) hFc (fun r9 u9 t9 H1 locs ht hvm e9 hB hz1 hk1 hS => ?_)
            obtain ⟨hP1, hK1, hD1⟩ := hB
            rw [ht] at hP1
            obtain ⟨hP, hD⟩ := va_join (wr := [(v_r 12, .inl (cI, 90000, .inl (upd (fun _ => 0) (0 : Int32).toNatClampNeg 0))), (v_r 13, .inl (cI, 90000, .inl (upd (fun _ => 0) (0 : Int32).toNatClampNeg 0))), (v_r 14, .inl (cI, 90000, .inl (upd (fun _ => 0) (0 : Int32).toNatClampNeg 1))), (v_r 15, .inl (cI, 90000, .inl (fun _ => 0))), (v_r 16, .inl (cI, 90000, .inl (fun _ => 0))), (v_r 72, .inl (cI, 90000, .inl (fun _ => 0))), (v_r 10, .inl (cJ, 90000, .inr (.inl (fun _ => 0)))), (v_r 11, .inl (cJ, 90000, .inr (.inl (fun _ => 0)))), (v_r 3, .inl (cI, 120000, .inl (fun _ => 0))), (v_r 5, .inl (cI, 120000, .inl (fun _ => 0))), (v_r 4, .inl (cI, 120000, .inl (fun _ => 0))), (v_r 6, .inl (cI, 120000, .inl (fun _ => 0))), (v_r 1, .inl (cB, 300000, .inl (fun _ => 0))), (v_r 2, .inl (cB, 300000, .inl (fun _ => 0)))]) (w1 := [(h0, .inr (12, mo v_r (upd (upd (upd (upd (upd (upd (upd (upd (upd (upd (upd (upd (upd (mi0 sd) 0 0) 75 0) 76 ((-1))) 81 0) 84 0) 85 0) 74 0) 21 1) 67 0) 68 0) 69 0) 70 0) 70 1) (fun _ => 0))), (v_r 17, .inl (cI, 90000, .inl (upd (upd (fun _ => 0) (0 : Int32).toNatClampNeg ((-1))) (0 : Int32).toNatClampNeg 0))), (v_r 71, .inl (cI, 90000, .inl (upd (fun _ => 0) (0 : Int32).toNatClampNeg 0)))]) hP hD [0, 4, 5] [1, 2, 3, 6, 7, 8, 9, 10, 11, 12, 13, 14, 15, 16] rfl rfl (by decide) (by decide) hk1 hFc hP1 hD1
            subst e9
            clear hP1 hD1 hK1 hvm hz1 hk1 hFc hKc hDc hPc
            subst ht
            generalize t9.heap = H at hP hS ⊢
            have hP : va_P (dC, dI) classes [(v_r 12, .inl (cI, 90000, .inl (upd (fun _ => 0) (0 : Int32).toNatClampNeg 0))), (v_r 13, .inl (cI, 90000, .inl (upd (fun _ => 0) (0 : Int32).toNatClampNeg 0))), (v_r 14, .inl (cI, 90000, .inl (upd (fun _ => 0) (0 : Int32).toNatClampNeg 1))), (v_r 15, .inl (cI, 90000, .inl (fun _ => 0))), (v_r 16, .inl (cI, 90000, .inl (fun _ => 0))), (v_r 72, .inl (cI, 90000, .inl (fun _ => 0))), (v_r 10, .inl (cJ, 90000, .inr (.inl (fun _ => 0)))), (v_r 11, .inl (cJ, 90000, .inr (.inl (fun _ => 0)))), (v_r 3, .inl (cI, 120000, .inl (fun _ => 0))), (v_r 5, .inl (cI, 120000, .inl (fun _ => 0))), (v_r 4, .inl (cI, 120000, .inl (fun _ => 0))), (v_r 6, .inl (cI, 120000, .inl (fun _ => 0))), (v_r 1, .inl (cB, 300000, .inl (fun _ => 0))), (v_r 2, .inl (cB, 300000, .inl (fun _ => 0))), (h0, .inr (12, mo v_r (upd (upd (upd (upd (upd (upd (upd (upd (upd (upd (upd (upd (upd (mi0 sd) 0 0) 75 0) 76 ((-1))) 81 0) 84 0) 85 0) 74 0) 21 1) 67 0) 68 0) 69 0) 70 0) 70 1) (fun _ => 0))), (v_r 17, .inl (cI, 90000, .inl (upd (upd (fun _ => 0) (0 : Int32).toNatClampNeg ((-1))) (0 : Int32).toNatClampNeg 0))), (v_r 71, .inl (cI, 90000, .inl (upd (fun _ => 0) (0 : Int32).toNatClampNeg 0)))] H := hP
            have hD : va_D A [(v_r 12, .inl (cI, 90000, .inl (upd (fun _ => 0) (0 : Int32).toNatClampNeg 0))), (v_r 13, .inl (cI, 90000, .inl (upd (fun _ => 0) (0 : Int32).toNatClampNeg 0))), (v_r 14, .inl (cI, 90000, .inl (upd (fun _ => 0) (0 : Int32).toNatClampNeg 1))), (v_r 15, .inl (cI, 90000, .inl (fun _ => 0))), (v_r 16, .inl (cI, 90000, .inl (fun _ => 0))), (v_r 72, .inl (cI, 90000, .inl (fun _ => 0))), (v_r 10, .inl (cJ, 90000, .inr (.inl (fun _ => 0)))), (v_r 11, .inl (cJ, 90000, .inr (.inl (fun _ => 0)))), (v_r 3, .inl (cI, 120000, .inl (fun _ => 0))), (v_r 5, .inl (cI, 120000, .inl (fun _ => 0))), (v_r 4, .inl (cI, 120000, .inl (fun _ => 0))), (v_r 6, .inl (cI, 120000, .inl (fun _ => 0))), (v_r 1, .inl (cB, 300000, .inl (fun _ => 0))), (v_r 2, .inl (cB, 300000, .inl (fun _ => 0))), (h0, .inr (12, mo v_r (upd (upd (upd (upd (upd (upd (upd (upd (upd (upd (upd (upd (upd (mi0 sd) 0 0) 75 0) 76 ((-1))) 81 0) 84 0) 85 0) 74 0) 21 1) 67 0) 68 0) 69 0) 70 0) 70 1) (fun _ => 0))), (v_r 17, .inl (cI, 90000, .inl (upd (upd (fun _ => 0) (0 : Int32).toNatClampNeg ((-1))) (0 : Int32).toNatClampNeg 0))), (v_r 71, .inl (cI, 90000, .inl (upd (fun _ => 0) (0 : Int32).toNatClampNeg 0)))] := hD
            refine lv_lstore_n (lv' := [(3, .long 2), (0, .ref h0), (1, .long 2)]) hx hb d_Model_tidy_213 rfl hl (by decide) rfl (fun ls hl => ?_)
            refine lv_iconst (v := 0) hx hb d_Model_tidy_214 (by decide) ?_
            refine lv_istore (lv' := [(5, .int 0), (3, .long 2), (0, .ref h0), (1, .long 2)]) hx hb d_Model_tidy_215 hl (by decide) rfl (fun ls hl => ?_)
            refine lv_iload hx hb d_Model_tidy_217 (lv_at hl 0 rfl) ?_
            refine lv_aload_n hx hb d_Model_tidy_219 rfl (lv_at hl 2 rfl) ?_
            refine va_get (D := (dC, dI)) (ci := 12) (v := .int 1) (C := R_Model) (T := F_Model) (N := 127) hx hb htt iw_Model hown hK hP 14 rfl rfl 70 (by decide) (htt _ lk_Model_399) (fun _ h9 => h9) rfl d_Model_tidy_220 ?_
            refine lv_icmp_ge (tgt := 337) hx hb d_Model_tidy_223 (by decide) (fun c_7 => ?_) (fun c_7 => ?_)
            · exact absurd c_7 (by decide)
            · refine lv_aload_n hx hb d_Model_tidy_226 rfl (lv_at hl 2 rfl) ?_
              refine va_get (D := (dC, dI)) (ci := 12) (v := .ref (v_r 71)) (C := R_Model) (T := F_Model) (N := 127) hx hb htt iw_Model hown hK hP 14 rfl rfl 71 (by decide) (htt _ lk_Model_255) (fun _ h9 => h9) rfl d_Model_tidy_227 ?_
              refine lv_iload hx hb d_Model_tidy_230 (lv_at hl 0 rfl) ?_
              have h_8 : vp_in 0 90000 := vp_in_iff.mpr (by decide +kernel)
              refine va_iald hx hb hK hP 16 0 rfl rfl h_8 d_Model_tidy_232 ?_
              refine lv_topi (fun x_9 ex_9 => ?_)
              obtain rfl : x_9 = 0 := by rw [ex_9]; rfl
              clear ex_9
              refine lv_istore (lv' := [(6, .int 0), (5, .int 0), (3, .long 2), (0, .ref h0), (1, .long 2)]) hx hb d_Model_tidy_233 hl (by decide) rfl (fun ls hl => ?_)
              refine lv_aload_n hx hb d_Model_tidy_235 rfl (lv_at hl 3 rfl) ?_
              refine va_get (D := (dC, dI)) (ci := 12) (v := .ref (v_r 15)) (C := R_Model) (T := F_Model) (N := 127) hx hb htt iw_Model hown hK hP 14 rfl rfl 15 (by decide) (htt _ lk_Model_173) (fun _ h9 => h9) rfl d_Model_tidy_236 ?_
              refine lv_iload hx hb d_Model_tidy_239 (lv_at hl 1 rfl) ?_
              refine lv_aload_n hx hb d_Model_tidy_241 rfl (lv_at hl 3 rfl) ?_
              refine va_get (D := (dC, dI)) (ci := 12) (v := .int 0) (C := R_Model) (T := F_Model) (N := 127) hx hb htt iw_Model hown hK hP 14 rfl rfl 69 (by decide) (htt _ lk_Model_402) (fun _ h9 => h9) rfl d_Model_tidy_242 ?_
              have h_10 : vp_in 0 90000 := vp_in_iff.mpr (by decide +kernel)
              refine va_iast hx hb hK hP hD hS 3 0 rfl rfl h_10 d_Model_tidy_245 (fun H locs hP hD hS => ?_)
              have hP : va_P (dC, dI) classes [(v_r 12, .inl (cI, 90000, .inl (upd (fun _ => 0) (0 : Int32).toNatClampNeg 0))), (v_r 13, .inl (cI, 90000, .inl (upd (fun _ => 0) (0 : Int32).toNatClampNeg 0))), (v_r 14, .inl (cI, 90000, .inl (upd (fun _ => 0) (0 : Int32).toNatClampNeg 1))), (v_r 15, .inl (cI, 90000, .inl (upd (fun _ => 0) (0 : Int32).toNatClampNeg 0))), (v_r 16, .inl (cI, 90000, .inl (fun _ => 0))), (v_r 72, .inl (cI, 90000, .inl (fun _ => 0))), (v_r 10, .inl (cJ, 90000, .inr (.inl (fun _ => 0)))), (v_r 11, .inl (cJ, 90000, .inr (.inl (fun _ => 0)))), (v_r 3, .inl (cI, 120000, .inl (fun _ => 0))), (v_r 5, .inl (cI, 120000, .inl (fun _ => 0))), (v_r 4, .inl (cI, 120000, .inl (fun _ => 0))), (v_r 6, .inl (cI, 120000, .inl (fun _ => 0))), (v_r 1, .inl (cB, 300000, .inl (fun _ => 0))), (v_r 2, .inl (cB, 300000, .inl (fun _ => 0))), (h0, .inr (12, mo v_r (upd (upd (upd (upd (upd (upd (upd (upd (upd (upd (upd (upd (upd (mi0 sd) 0 0) 75 0) 76 ((-1))) 81 0) 84 0) 85 0) 74 0) 21 1) 67 0) 68 0) 69 0) 70 0) 70 1) (fun _ => 0))), (v_r 17, .inl (cI, 90000, .inl (upd (upd (fun _ => 0) (0 : Int32).toNatClampNeg ((-1))) (0 : Int32).toNatClampNeg 0))), (v_r 71, .inl (cI, 90000, .inl (upd (fun _ => 0) (0 : Int32).toNatClampNeg 0)))] H := hP
              have hD : va_D A [(v_r 12, .inl (cI, 90000, .inl (upd (fun _ => 0) (0 : Int32).toNatClampNeg 0))), (v_r 13, .inl (cI, 90000, .inl (upd (fun _ => 0) (0 : Int32).toNatClampNeg 0))), (v_r 14, .inl (cI, 90000, .inl (upd (fun _ => 0) (0 : Int32).toNatClampNeg 1))), (v_r 15, .inl (cI, 90000, .inl (upd (fun _ => 0) (0 : Int32).toNatClampNeg 0))), (v_r 16, .inl (cI, 90000, .inl (fun _ => 0))), (v_r 72, .inl (cI, 90000, .inl (fun _ => 0))), (v_r 10, .inl (cJ, 90000, .inr (.inl (fun _ => 0)))), (v_r 11, .inl (cJ, 90000, .inr (.inl (fun _ => 0)))), (v_r 3, .inl (cI, 120000, .inl (fun _ => 0))), (v_r 5, .inl (cI, 120000, .inl (fun _ => 0))), (v_r 4, .inl (cI, 120000, .inl (fun _ => 0))), (v_r 6, .inl (cI, 120000, .inl (fun _ => 0))), (v_r 1, .inl (cB, 300000, .inl (fun _ => 0))), (v_r 2, .inl (cB, 300000, .inl (fun _ => 0))), (h0, .inr (12, mo v_r (upd (upd (upd (upd (upd (upd (upd (upd (upd (upd (upd (upd (upd (mi0 sd) 0 0) 75 0) 76 ((-1))) 81 0) 84 0) 85 0) 74 0) 21 1) 67 0) 68 0) 69 0) 70 0) 70 1) (fun _ => 0))), (v_r 17, .inl (cI, 90000, .inl (upd (upd (fun _ => 0) (0 : Int32).toNatClampNeg ((-1))) (0 : Int32).toNatClampNeg 0))), (v_r 71, .inl (cI, 90000, .inl (upd (fun _ => 0) (0 : Int32).toNatClampNeg 0)))] := hD
              refine lv_aload_n hx hb d_Model_tidy_246 rfl (lv_at hl 3 rfl) ?_
              refine va_get (D := (dC, dI)) (ci := 12) (v := .ref (v_r 16)) (C := R_Model) (T := F_Model) (N := 127) hx hb htt iw_Model hown hK hP 14 rfl rfl 16 (by decide) (htt _ lk_Model_176) (fun _ h9 => h9) rfl d_Model_tidy_247 ?_
              refine lv_iload hx hb d_Model_tidy_250 (lv_at hl 1 rfl) ?_
              refine lv_aload_n hx hb d_Model_tidy_252 rfl (lv_at hl 3 rfl) ?_
              refine va_get (D := (dC, dI)) (ci := 12) (v := .ref (v_r 13)) (C := R_Model) (T := F_Model) (N := 127) hx hb htt iw_Model hown hK hP 14 rfl rfl 13 (by decide) (htt _ lk_Model_47) (fun _ h9 => h9) rfl d_Model_tidy_253 ?_
              refine lv_iload hx hb d_Model_tidy_256 (lv_at hl 0 rfl) ?_
              have h_11 : vp_in 0 90000 := vp_in_iff.mpr (by decide +kernel)
              refine va_iald hx hb hK hP 1 0 rfl rfl h_11 d_Model_tidy_258 ?_
              refine lv_topi (fun x_12 ex_12 => ?_)
              obtain rfl : x_12 = 0 := by rw [ex_12]; rfl
              clear ex_12
              have h_13 : vp_in 0 90000 := vp_in_iff.mpr (by decide +kernel)
              refine va_iast hx hb hK hP hD hS 4 0 rfl rfl h_13 d_Model_tidy_259 (fun H locs hP hD hS => ?_)
              have hP : va_P (dC, dI) classes [(v_r 12, .inl (cI, 90000, .inl (upd (fun _ => 0) (0 : Int32).toNatClampNeg 0))), (v_r 13, .inl (cI, 90000, .inl (upd (fun _ => 0) (0 : Int32).toNatClampNeg 0))), (v_r 14, .inl (cI, 90000, .inl (upd (fun _ => 0) (0 : Int32).toNatClampNeg 1))), (v_r 15, .inl (cI, 90000, .inl (upd (fun _ => 0) (0 : Int32).toNatClampNeg 0))), (v_r 16, .inl (cI, 90000, .inl (upd (fun _ => 0) (0 : Int32).toNatClampNeg 0))), (v_r 72, .inl (cI, 90000, .inl (fun _ => 0))), (v_r 10, .inl (cJ, 90000, .inr (.inl (fun _ => 0)))), (v_r 11, .inl (cJ, 90000, .inr (.inl (fun _ => 0)))), (v_r 3, .inl (cI, 120000, .inl (fun _ => 0))), (v_r 5, .inl (cI, 120000, .inl (fun _ => 0))), (v_r 4, .inl (cI, 120000, .inl (fun _ => 0))), (v_r 6, .inl (cI, 120000, .inl (fun _ => 0))), (v_r 1, .inl (cB, 300000, .inl (fun _ => 0))), (v_r 2, .inl (cB, 300000, .inl (fun _ => 0))), (h0, .inr (12, mo v_r (upd (upd (upd (upd (upd (upd (upd (upd (upd (upd (upd (upd (upd (mi0 sd) 0 0) 75 0) 76 ((-1))) 81 0) 84 0) 85 0) 74 0) 21 1) 67 0) 68 0) 69 0) 70 0) 70 1) (fun _ => 0))), (v_r 17, .inl (cI, 90000, .inl (upd (upd (fun _ => 0) (0 : Int32).toNatClampNeg ((-1))) (0 : Int32).toNatClampNeg 0))), (v_r 71, .inl (cI, 90000, .inl (upd (fun _ => 0) (0 : Int32).toNatClampNeg 0)))] H := hP
              have hD : va_D A [(v_r 12, .inl (cI, 90000, .inl (upd (fun _ => 0) (0 : Int32).toNatClampNeg 0))), (v_r 13, .inl (cI, 90000, .inl (upd (fun _ => 0) (0 : Int32).toNatClampNeg 0))), (v_r 14, .inl (cI, 90000, .inl (upd (fun _ => 0) (0 : Int32).toNatClampNeg 1))), (v_r 15, .inl (cI, 90000, .inl (upd (fun _ => 0) (0 : Int32).toNatClampNeg 0))), (v_r 16, .inl (cI, 90000, .inl (upd (fun _ => 0) (0 : Int32).toNatClampNeg 0))), (v_r 72, .inl (cI, 90000, .inl (fun _ => 0))), (v_r 10, .inl (cJ, 90000, .inr (.inl (fun _ => 0)))), (v_r 11, .inl (cJ, 90000, .inr (.inl (fun _ => 0)))), (v_r 3, .inl (cI, 120000, .inl (fun _ => 0))), (v_r 5, .inl (cI, 120000, .inl (fun _ => 0))), (v_r 4, .inl (cI, 120000, .inl (fun _ => 0))), (v_r 6, .inl (cI, 120000, .inl (fun _ => 0))), (v_r 1, .inl (cB, 300000, .inl (fun _ => 0))), (v_r 2, .inl (cB, 300000, .inl (fun _ => 0))), (h0, .inr (12, mo v_r (upd (upd (upd (upd (upd (upd (upd (upd (upd (upd (upd (upd (upd (mi0 sd) 0 0) 75 0) 76 ((-1))) 81 0) 84 0) 85 0) 74 0) 21 1) 67 0) 68 0) 69 0) 70 0) 70 1) (fun _ => 0))), (v_r 17, .inl (cI, 90000, .inl (upd (upd (fun _ => 0) (0 : Int32).toNatClampNeg ((-1))) (0 : Int32).toNatClampNeg 0))), (v_r 71, .inl (cI, 90000, .inl (upd (fun _ => 0) (0 : Int32).toNatClampNeg 0)))] := hD
              refine lv_aload_n hx hb d_Model_tidy_260 rfl (lv_at hl 3 rfl) ?_
              refine lv_dup hx hb d_Model_tidy_261 rfl ?_
              refine va_get (D := (dC, dI)) (ci := 12) (v := .int 0) (C := R_Model) (T := F_Model) (N := 127) hx hb htt iw_Model hown hK hP 14 rfl rfl 69 (by decide) (htt _ lk_Model_402) (fun _ h9 => h9) rfl d_Model_tidy_262 ?_
              refine lv_aload_n hx hb d_Model_tidy_265 rfl (lv_at hl 3 rfl) ?_
              refine va_get (D := (dC, dI)) (ci := 12) (v := .ref (v_r 13)) (C := R_Model) (T := F_Model) (N := 127) hx hb htt iw_Model hown hK hP 14 rfl rfl 13 (by decide) (htt _ lk_Model_47) (fun _ h9 => h9) rfl d_Model_tidy_266 ?_
              refine lv_iload hx hb d_Model_tidy_269 (lv_at hl 0 rfl) ?_
              have h_14 : vp_in 0 90000 := vp_in_iff.mpr (by decide +kernel)
              refine va_iald hx hb hK hP 1 0 rfl rfl h_14 d_Model_tidy_271 ?_
              refine lv_topi (fun x_15 ex_15 => ?_)
              obtain rfl : x_15 = 0 := by rw [ex_15]; rfl
              clear ex_15
              refine lv_iadd hx hb d_Model_tidy_272 ?_
              refine lv_topi (fun x_16 ex_16 => ?_)
              obtain rfl : x_16 = 0 := by rw [ex_16]; decide
              clear ex_16
              refine va_put (D := (dC, dI)) (ci := 12) (v := .int 0) (ty := .int) (C := R_Model) (T := F_Model) (N := 127) hx hb htt iw_Model t_Model t_Model_ok n_Model hown hK hP hD hS 14 rfl rfl 69 (by decide) (htt _ lk_Model_402) (fun _ h9 => h9) rfl (by decide +kernel) rfl rfl (Nat.le_of_ble_eq_true rfl) d_Model_tidy_273 (fun H locs hP hD hS => ?_)
              have hP : va_P (dC, dI) classes [(v_r 12, .inl (cI, 90000, .inl (upd (fun _ => 0) (0 : Int32).toNatClampNeg 0))), (v_r 13, .inl (cI, 90000, .inl (upd (fun _ => 0) (0 : Int32).toNatClampNeg 0))), (v_r 14, .inl (cI, 90000, .inl (upd (fun _ => 0) (0 : Int32).toNatClampNeg 1))), (v_r 15, .inl (cI, 90000, .inl (upd (fun _ => 0) (0 : Int32).toNatClampNeg 0))), (v_r 16, .inl (cI, 90000, .inl (upd (fun _ => 0) (0 : Int32).toNatClampNeg 0))), (v_r 72, .inl (cI, 90000, .inl (fun _ => 0))), (v_r 10, .inl (cJ, 90000, .inr (.inl (fun _ => 0)))), (v_r 11, .inl (cJ, 90000, .inr (.inl (fun _ => 0)))), (v_r 3, .inl (cI, 120000, .inl (fun _ => 0))), (v_r 5, .inl (cI, 120000, .inl (fun _ => 0))), (v_r 4, .inl (cI, 120000, .inl (fun _ => 0))), (v_r 6, .inl (cI, 120000, .inl (fun _ => 0))), (v_r 1, .inl (cB, 300000, .inl (fun _ => 0))), (v_r 2, .inl (cB, 300000, .inl (fun _ => 0))), (h0, .inr (12, mo v_r (upd (upd (upd (upd (upd (upd (upd (upd (upd (upd (upd (upd (upd (upd (mi0 sd) 0 0) 75 0) 76 ((-1))) 81 0) 84 0) 85 0) 74 0) 21 1) 67 0) 68 0) 69 0) 70 0) 70 1) 69 0) (fun _ => 0))), (v_r 17, .inl (cI, 90000, .inl (upd (upd (fun _ => 0) (0 : Int32).toNatClampNeg ((-1))) (0 : Int32).toNatClampNeg 0))), (v_r 71, .inl (cI, 90000, .inl (upd (fun _ => 0) (0 : Int32).toNatClampNeg 0)))] H := hP
              have hD : va_D A [(v_r 12, .inl (cI, 90000, .inl (upd (fun _ => 0) (0 : Int32).toNatClampNeg 0))), (v_r 13, .inl (cI, 90000, .inl (upd (fun _ => 0) (0 : Int32).toNatClampNeg 0))), (v_r 14, .inl (cI, 90000, .inl (upd (fun _ => 0) (0 : Int32).toNatClampNeg 1))), (v_r 15, .inl (cI, 90000, .inl (upd (fun _ => 0) (0 : Int32).toNatClampNeg 0))), (v_r 16, .inl (cI, 90000, .inl (upd (fun _ => 0) (0 : Int32).toNatClampNeg 0))), (v_r 72, .inl (cI, 90000, .inl (fun _ => 0))), (v_r 10, .inl (cJ, 90000, .inr (.inl (fun _ => 0)))), (v_r 11, .inl (cJ, 90000, .inr (.inl (fun _ => 0)))), (v_r 3, .inl (cI, 120000, .inl (fun _ => 0))), (v_r 5, .inl (cI, 120000, .inl (fun _ => 0))), (v_r 4, .inl (cI, 120000, .inl (fun _ => 0))), (v_r 6, .inl (cI, 120000, .inl (fun _ => 0))), (v_r 1, .inl (cB, 300000, .inl (fun _ => 0))), (v_r 2, .inl (cB, 300000, .inl (fun _ => 0))), (h0, .inr (12, mo v_r (upd (upd (upd (upd (upd (upd (upd (upd (upd (upd (upd (upd (upd (upd (mi0 sd) 0 0) 75 0) 76 ((-1))) 81 0) 84 0) 85 0) 74 0) 21 1) 67 0) 68 0) 69 0) 70 0) 70 1) 69 0) (fun _ => 0))), (v_r 17, .inl (cI, 90000, .inl (upd (upd (fun _ => 0) (0 : Int32).toNatClampNeg ((-1))) (0 : Int32).toNatClampNeg 0))), (v_r 71, .inl (cI, 90000, .inl (upd (fun _ => 0) (0 : Int32).toNatClampNeg 0)))] := hD
              refine lv_iconst (v := 0) hx hb d_Model_tidy_276 (by decide) ?_
              refine lv_istore (lv' := [(7, .int 0), (6, .int 0), (5, .int 0), (3, .long 2), (0, .ref h0), (1, .long 2)]) hx hb d_Model_tidy_277 hl (by decide) rfl (fun ls hl => ?_)
              refine lv_iload hx hb d_Model_tidy_279 (lv_at hl 0 rfl) ?_
              refine lv_aload_n hx hb d_Model_tidy_281 rfl (lv_at hl 4 rfl) ?_
              refine va_get (D := (dC, dI)) (ci := 12) (v := .ref (v_r 13)) (C := R_Model) (T := F_Model) (N := 127) hx hb htt iw_Model hown hK hP 14 rfl rfl 13 (by decide) (htt _ lk_Model_47) (fun _ h9 => h9) rfl d_Model_tidy_282 ?_
              refine lv_iload hx hb d_Model_tidy_285 (lv_at hl 1 rfl) ?_
              have h_17 : vp_in 0 90000 := vp_in_iff.mpr (by decide +kernel)
              refine va_iald hx hb hK hP 1 0 rfl rfl h_17 d_Model_tidy_287 ?_
              refine lv_topi (fun x_18 ex_18 => ?_)
              obtain rfl : x_18 = 0 := by rw [ex_18]; rfl
              clear ex_18
              refine lv_icmp_ge (tgt := 331) hx hb d_Model_tidy_288 (by decide) (fun c_19 => ?_) (fun c_19 => ?_)
              · refine lv_iinc (v := 1) (lv' := [(5, .int 1), (7, .int 0), (6, .int 0), (3, .long 2), (0, .ref h0), (1, .long 2)]) hx hb d_Model_tidy_331 hl (k := 2) rfl (by decide) (by decide) rfl (fun ls hl => ?_)
                refine lv_goto (tgt := 217) hx hb d_Model_tidy_334 (by decide) ?_
                refine lv_iload hx hb d_Model_tidy_217 (lv_at hl 0 rfl) ?_
                refine lv_aload_n hx hb d_Model_tidy_219 rfl (lv_at hl 4 rfl) ?_
                refine va_get (D := (dC, dI)) (ci := 12) (v := .int 1) (C := R_Model) (T := F_Model) (N := 127) hx hb htt iw_Model hown hK hP 14 rfl rfl 70 (by decide) (htt _ lk_Model_399) (fun _ h9 => h9) rfl d_Model_tidy_220 ?_
                refine lv_icmp_ge (tgt := 337) hx hb d_Model_tidy_223 (by decide) (fun c_20 => ?_) (fun c_20 => ?_)
                · refine lv_iconst (v := 0) hx hb d_Model_tidy_337 (by decide) ?_
                  refine lv_istore (lv' := [(5, .int 0), (7, .int 0), (6, .int 0), (3, .long 2), (0, .ref h0), (1, .long 2)]) hx hb d_Model_tidy_338 hl (by decide) rfl (fun ls hl => ?_)
                  refine lv_iload hx hb d_Model_tidy_340 (lv_at hl 0 rfl) ?_
                  refine lv_aload_n hx hb d_Model_tidy_342 rfl (lv_at hl 4 rfl) ?_
                  refine va_get (D := (dC, dI)) (ci := 12) (v := .int 1) (C := R_Model) (T := F_Model) (N := 127) hx hb htt iw_Model hown hK hP 14 rfl rfl 70 (by decide) (htt _ lk_Model_399) (fun _ h9 => h9) rfl d_Model_tidy_343 ?_
                  refine lv_icmp_ge (tgt := 374) hx hb d_Model_tidy_346 (by decide) (fun c_21 => ?_) (fun c_21 => ?_)
                  · exact absurd c_21 (by decide)
                  · refine lv_aload_n hx hb d_Model_tidy_349 rfl (lv_at hl 4 rfl) ?_
                    refine va_get (D := (dC, dI)) (ci := 12) (v := .ref (v_r 72)) (C := R_Model) (T := F_Model) (N := 127) hx hb htt iw_Model hown hK hP 14 rfl rfl 72 (by decide) (htt _ lk_Model_258) (fun _ h9 => h9) rfl d_Model_tidy_350 ?_
                    refine lv_iload hx hb d_Model_tidy_353 (lv_at hl 0 rfl) ?_
                    refine lv_aload_n hx hb d_Model_tidy_355 rfl (lv_at hl 4 rfl) ?_
                    refine va_get (D := (dC, dI)) (ci := 12) (v := .ref (v_r 14)) (C := R_Model) (T := F_Model) (N := 127) hx hb htt iw_Model hown hK hP 14 rfl rfl 14 (by decide) (htt _ lk_Model_50) (fun _ h9 => h9) rfl d_Model_tidy_356 ?_
                    refine lv_aload_n hx hb d_Model_tidy_359 rfl (lv_at hl 4 rfl) ?_
                    refine va_get (D := (dC, dI)) (ci := 12) (v := .ref (v_r 71)) (C := R_Model) (T := F_Model) (N := 127) hx hb htt iw_Model hown hK hP 14 rfl rfl 71 (by decide) (htt _ lk_Model_255) (fun _ h9 => h9) rfl d_Model_tidy_360 ?_
                    refine lv_iload hx hb d_Model_tidy_363 (lv_at hl 0 rfl) ?_
                    have h_22 : vp_in 0 90000 := vp_in_iff.mpr (by decide +kernel)
                    refine va_iald hx hb hK hP 16 0 rfl rfl h_22 d_Model_tidy_365 ?_
                    refine lv_topi (fun x_23 ex_23 => ?_)
                    obtain rfl : x_23 = 0 := by rw [ex_23]; rfl
                    clear ex_23
                    have h_24 : vp_in 0 90000 := vp_in_iff.mpr (by decide +kernel)
                    refine va_iald hx hb hK hP 2 0 rfl rfl h_24 d_Model_tidy_366 ?_
                    refine lv_topi (fun x_25 ex_25 => ?_)
                    obtain rfl : x_25 = 1 := by rw [ex_25]; rfl
                    clear ex_25
                    have h_26 : vp_in 0 90000 := vp_in_iff.mpr (by decide +kernel)
                    refine va_iast hx hb hK hP hD hS 5 0 rfl rfl h_26 d_Model_tidy_367 (fun H locs hP hD hS => ?_)
                    have hP : va_P (dC, dI) classes [(v_r 12, .inl (cI, 90000, .inl (upd (fun _ => 0) (0 : Int32).toNatClampNeg 0))), (v_r 13, .inl (cI, 90000, .inl (upd (fun _ => 0) (0 : Int32).toNatClampNeg 0))), (v_r 14, .inl (cI, 90000, .inl (upd (fun _ => 0) (0 : Int32).toNatClampNeg 1))), (v_r 15, .inl (cI, 90000, .inl (upd (fun _ => 0) (0 : Int32).toNatClampNeg 0))), (v_r 16, .inl (cI, 90000, .inl (upd (fun _ => 0) (0 : Int32).toNatClampNeg 0))), (v_r 72, .inl (cI, 90000, .inl (upd (fun _ => 0) (0 : Int32).toNatClampNeg 1))), (v_r 10, .inl (cJ, 90000, .inr (.inl (fun _ => 0)))), (v_r 11, .inl (cJ, 90000, .inr (.inl (fun _ => 0)))), (v_r 3, .inl (cI, 120000, .inl (fun _ => 0))), (v_r 5, .inl (cI, 120000, .inl (fun _ => 0))), (v_r 4, .inl (cI, 120000, .inl (fun _ => 0))), (v_r 6, .inl (cI, 120000, .inl (fun _ => 0))), (v_r 1, .inl (cB, 300000, .inl (fun _ => 0))), (v_r 2, .inl (cB, 300000, .inl (fun _ => 0))), (h0, .inr (12, mo v_r (upd (upd (upd (upd (upd (upd (upd (upd (upd (upd (upd (upd (upd (upd (mi0 sd) 0 0) 75 0) 76 ((-1))) 81 0) 84 0) 85 0) 74 0) 21 1) 67 0) 68 0) 69 0) 70 0) 70 1) 69 0) (fun _ => 0))), (v_r 17, .inl (cI, 90000, .inl (upd (upd (fun _ => 0) (0 : Int32).toNatClampNeg ((-1))) (0 : Int32).toNatClampNeg 0))), (v_r 71, .inl (cI, 90000, .inl (upd (fun _ => 0) (0 : Int32).toNatClampNeg 0)))] H := hP
                    have hD : va_D A [(v_r 12, .inl (cI, 90000, .inl (upd (fun _ => 0) (0 : Int32).toNatClampNeg 0))), (v_r 13, .inl (cI, 90000, .inl (upd (fun _ => 0) (0 : Int32).toNatClampNeg 0))), (v_r 14, .inl (cI, 90000, .inl (upd (fun _ => 0) (0 : Int32).toNatClampNeg 1))), (v_r 15, .inl (cI, 90000, .inl (upd (fun _ => 0) (0 : Int32).toNatClampNeg 0))), (v_r 16, .inl (cI, 90000, .inl (upd (fun _ => 0) (0 : Int32).toNatClampNeg 0))), (v_r 72, .inl (cI, 90000, .inl (upd (fun _ => 0) (0 : Int32).toNatClampNeg 1))), (v_r 10, .inl (cJ, 90000, .inr (.inl (fun _ => 0)))), (v_r 11, .inl (cJ, 90000, .inr (.inl (fun _ => 0)))), (v_r 3, .inl (cI, 120000, .inl (fun _ => 0))), (v_r 5, .inl (cI, 120000, .inl (fun _ => 0))), (v_r 4, .inl (cI, 120000, .inl (fun _ => 0))), (v_r 6, .inl (cI, 120000, .inl (fun _ => 0))), (v_r 1, .inl (cB, 300000, .inl (fun _ => 0))), (v_r 2, .inl (cB, 300000, .inl (fun _ => 0))), (h0, .inr (12, mo v_r (upd (upd (upd (upd (upd (upd (upd (upd (upd (upd (upd (upd (upd (upd (mi0 sd) 0 0) 75 0) 76 ((-1))) 81 0) 84 0) 85 0) 74 0) 21 1) 67 0) 68 0) 69 0) 70 0) 70 1) 69 0) (fun _ => 0))), (v_r 17, .inl (cI, 90000, .inl (upd (upd (fun _ => 0) (0 : Int32).toNatClampNeg ((-1))) (0 : Int32).toNatClampNeg 0))), (v_r 71, .inl (cI, 90000, .inl (upd (fun _ => 0) (0 : Int32).toNatClampNeg 0)))] := hD
                    refine lv_iinc (v := 1) (lv' := [(5, .int 1), (7, .int 0), (6, .int 0), (3, .long 2), (0, .ref h0), (1, .long 2)]) hx hb d_Model_tidy_368 hl (k := 0) rfl (by decide) (by decide) rfl (fun ls hl => ?_)
                    refine lv_goto (tgt := 340) hx hb d_Model_tidy_371 (by decide) ?_
                    refine lv_iload hx hb d_Model_tidy_340 (lv_at hl 0 rfl) ?_
                    refine lv_aload_n hx hb d_Model_tidy_342 rfl (lv_at hl 4 rfl) ?_
                    refine va_get (D := (dC, dI)) (ci := 12) (v := .int 1) (C := R_Model) (T := F_Model) (N := 127) hx hb htt iw_Model hown hK hP 14 rfl rfl 70 (by decide) (htt _ lk_Model_399) (fun _ h9 => h9) rfl d_Model_tidy_343 ?_
                    refine lv_icmp_ge (tgt := 374) hx hb d_Model_tidy_346 (by decide) (fun c_27 => ?_) (fun c_27 => ?_)
                    · refine lv_aload_n hx hb d_Model_tidy_374 rfl (lv_at hl 4 rfl) ?_
                      refine va_get (D := (dC, dI)) (ci := 12) (v := .ref (v_r 72)) (C := R_Model) (T := F_Model) (N := 127) hx hb htt iw_Model hown hK hP 14 rfl rfl 72 (by decide) (htt _ lk_Model_258) (fun _ h9 => h9) rfl d_Model_tidy_375 ?_
                      refine lv_iconst (v := 0) hx hb d_Model_tidy_378 (by decide) ?_
                      refine lv_aload_n hx hb d_Model_tidy_379 rfl (lv_at hl 4 rfl) ?_
                      refine va_get (D := (dC, dI)) (ci := 12) (v := .ref (v_r 14)) (C := R_Model) (T := F_Model) (N := 127) hx hb htt iw_Model hown hK hP 14 rfl rfl 14 (by decide) (htt _ lk_Model_50) (fun _ h9 => h9) rfl d_Model_tidy_380 ?_
                      refine lv_iconst (v := 0) hx hb d_Model_tidy_383 (by decide) ?_
                      refine lv_aload_n hx hb d_Model_tidy_384 rfl (lv_at hl 4 rfl) ?_
                      refine va_get (D := (dC, dI)) (ci := 12) (v := .int 1) (C := R_Model) (T := F_Model) (N := 127) hx hb htt iw_Model hown hK hP 14 rfl rfl 70 (by decide) (htt _ lk_Model_399) (fun _ h9 => h9) rfl d_Model_tidy_385 ?_
                      refine va_copyi hx hb (by rw [hml]; exact hl.1.symm) hown (htt _ lk_Model_334) (htt _ na_arraycopy) (htt _ st_arraycopy) (htt _ ini_System) hK hP hD hS 5 2 0 0 (ty := .int) (sp := 0) (dp := 0) (n := 1) rfl rfl rfl rfl rfl (by decide) (by decide) (by decide) (by decide) (by decide) (fun _ _ => rfl) (Nat.le_of_ble_eq_true rfl) (Nat.le_of_ble_eq_true rfl) d_Model_tidy_388 (fun H locs hP hD hS => ?_)
                      have hP : va_P (dC, dI) classes [(v_r 12, .inl (cI, 90000, .inl (upd (fun _ => 0) (0 : Int32).toNatClampNeg 0))), (v_r 13, .inl (cI, 90000, .inl (upd (fun _ => 0) (0 : Int32).toNatClampNeg 0))), (v_r 14, .inl (cI, 90000, .inl (va_cpy (upd (fun _ => 0) (0 : Int32).toNatClampNeg 1) (upd (fun _ => 0) (0 : Int32).toNatClampNeg 1) (0 : Int32).toNatClampNeg (0 : Int32).toNatClampNeg (1 : Int32).toNatClampNeg))), (v_r 15, .inl (cI, 90000, .inl (upd (fun _ => 0) (0 : Int32).toNatClampNeg 0))), (v_r 16, .inl (cI, 90000, .inl (upd (fun _ => 0) (0 : Int32).toNatClampNeg 0))), (v_r 72, .inl (cI, 90000, .inl (upd (fun _ => 0) (0 : Int32).toNatClampNeg 1))), (v_r 10, .inl (cJ, 90000, .inr (.inl (fun _ => 0)))), (v_r 11, .inl (cJ, 90000, .inr (.inl (fun _ => 0)))), (v_r 3, .inl (cI, 120000, .inl (fun _ => 0))), (v_r 5, .inl (cI, 120000, .inl (fun _ => 0))), (v_r 4, .inl (cI, 120000, .inl (fun _ => 0))), (v_r 6, .inl (cI, 120000, .inl (fun _ => 0))), (v_r 1, .inl (cB, 300000, .inl (fun _ => 0))), (v_r 2, .inl (cB, 300000, .inl (fun _ => 0))), (h0, .inr (12, mo v_r (upd (upd (upd (upd (upd (upd (upd (upd (upd (upd (upd (upd (upd (upd (mi0 sd) 0 0) 75 0) 76 ((-1))) 81 0) 84 0) 85 0) 74 0) 21 1) 67 0) 68 0) 69 0) 70 0) 70 1) 69 0) (fun _ => 0))), (v_r 17, .inl (cI, 90000, .inl (upd (upd (fun _ => 0) (0 : Int32).toNatClampNeg ((-1))) (0 : Int32).toNatClampNeg 0))), (v_r 71, .inl (cI, 90000, .inl (upd (fun _ => 0) (0 : Int32).toNatClampNeg 0)))] H := hP
                      have hD : va_D A [(v_r 12, .inl (cI, 90000, .inl (upd (fun _ => 0) (0 : Int32).toNatClampNeg 0))), (v_r 13, .inl (cI, 90000, .inl (upd (fun _ => 0) (0 : Int32).toNatClampNeg 0))), (v_r 14, .inl (cI, 90000, .inl (va_cpy (upd (fun _ => 0) (0 : Int32).toNatClampNeg 1) (upd (fun _ => 0) (0 : Int32).toNatClampNeg 1) (0 : Int32).toNatClampNeg (0 : Int32).toNatClampNeg (1 : Int32).toNatClampNeg))), (v_r 15, .inl (cI, 90000, .inl (upd (fun _ => 0) (0 : Int32).toNatClampNeg 0))), (v_r 16, .inl (cI, 90000, .inl (upd (fun _ => 0) (0 : Int32).toNatClampNeg 0))), (v_r 72, .inl (cI, 90000, .inl (upd (fun _ => 0) (0 : Int32).toNatClampNeg 1))), (v_r 10, .inl (cJ, 90000, .inr (.inl (fun _ => 0)))), (v_r 11, .inl (cJ, 90000, .inr (.inl (fun _ => 0)))), (v_r 3, .inl (cI, 120000, .inl (fun _ => 0))), (v_r 5, .inl (cI, 120000, .inl (fun _ => 0))), (v_r 4, .inl (cI, 120000, .inl (fun _ => 0))), (v_r 6, .inl (cI, 120000, .inl (fun _ => 0))), (v_r 1, .inl (cB, 300000, .inl (fun _ => 0))), (v_r 2, .inl (cB, 300000, .inl (fun _ => 0))), (h0, .inr (12, mo v_r (upd (upd (upd (upd (upd (upd (upd (upd (upd (upd (upd (upd (upd (upd (mi0 sd) 0 0) 75 0) 76 ((-1))) 81 0) 84 0) 85 0) 74 0) 21 1) 67 0) 68 0) 69 0) 70 0) 70 1) 69 0) (fun _ => 0))), (v_r 17, .inl (cI, 90000, .inl (upd (upd (fun _ => 0) (0 : Int32).toNatClampNeg ((-1))) (0 : Int32).toNatClampNeg 0))), (v_r 71, .inl (cI, 90000, .inl (upd (fun _ => 0) (0 : Int32).toNatClampNeg 0)))] := hD
                      refine lv_aload_n hx hb d_Model_tidy_391 rfl (lv_at hl 4 rfl) ?_
                      refine va_get (D := (dC, dI)) (ci := 12) (v := .ref (v_r 15)) (C := R_Model) (T := F_Model) (N := 127) hx hb htt iw_Model hown hK hP 14 rfl rfl 15 (by decide) (htt _ lk_Model_173) (fun _ h9 => h9) rfl d_Model_tidy_392 ?_
                      refine lv_iconst (v := 0) hx hb d_Model_tidy_395 (by decide) ?_
                      refine lv_aload_n hx hb d_Model_tidy_396 rfl (lv_at hl 4 rfl) ?_
                      refine va_get (D := (dC, dI)) (ci := 12) (v := .ref (v_r 12)) (C := R_Model) (T := F_Model) (N := 127) hx hb htt iw_Model hown hK hP 14 rfl rfl 12 (by decide) (htt _ lk_Model_41) (fun _ h9 => h9) rfl d_Model_tidy_397 ?_
                      refine lv_iconst (v := 0) hx hb d_Model_tidy_400 (by decide) ?_
                      refine lv_aload_n hx hb d_Model_tidy_401 rfl (lv_at hl 4 rfl) ?_
                      refine va_get (D := (dC, dI)) (ci := 12) (v := .int 1) (C := R_Model) (T := F_Model) (N := 127) hx hb htt iw_Model hown hK hP 14 rfl rfl 70 (by decide) (htt _ lk_Model_399) (fun _ h9 => h9) rfl d_Model_tidy_402 ?_
                      refine va_copyi hx hb (by rw [hml]; exact hl.1.symm) hown (htt _ lk_Model_334) (htt _ na_arraycopy) (htt _ st_arraycopy) (htt _ ini_System) hK hP hD hS 3 0 0 0 (ty := .int) (sp := 0) (dp := 0) (n := 1) rfl rfl rfl rfl rfl (by decide) (by decide) (by decide) (by decide) (by decide) (fun _ _ => rfl) (Nat.le_of_ble_eq_true rfl) (Nat.le_of_ble_eq_true rfl) d_Model_tidy_405 (fun H locs hP hD hS => ?_)
                      have hP : va_P (dC, dI) classes [(v_r 12, .inl (cI, 90000, .inl (va_cpy (upd (fun _ => 0) (0 : Int32).toNatClampNeg 0) (upd (fun _ => 0) (0 : Int32).toNatClampNeg 0) (0 : Int32).toNatClampNeg (0 : Int32).toNatClampNeg (1 : Int32).toNatClampNeg))), (v_r 13, .inl (cI, 90000, .inl (upd (fun _ => 0) (0 : Int32).toNatClampNeg 0))), (v_r 14, .inl (cI, 90000, .inl (va_cpy (upd (fun _ => 0) (0 : Int32).toNatClampNeg 1) (upd (fun _ => 0) (0 : Int32).toNatClampNeg 1) (0 : Int32).toNatClampNeg (0 : Int32).toNatClampNeg (1 : Int32).toNatClampNeg))), (v_r 15, .inl (cI, 90000, .inl (upd (fun _ => 0) (0 : Int32).toNatClampNeg 0))), (v_r 16, .inl (cI, 90000, .inl (upd (fun _ => 0) (0 : Int32).toNatClampNeg 0))), (v_r 72, .inl (cI, 90000, .inl (upd (fun _ => 0) (0 : Int32).toNatClampNeg 1))), (v_r 10, .inl (cJ, 90000, .inr (.inl (fun _ => 0)))), (v_r 11, .inl (cJ, 90000, .inr (.inl (fun _ => 0)))), (v_r 3, .inl (cI, 120000, .inl (fun _ => 0))), (v_r 5, .inl (cI, 120000, .inl (fun _ => 0))), (v_r 4, .inl (cI, 120000, .inl (fun _ => 0))), (v_r 6, .inl (cI, 120000, .inl (fun _ => 0))), (v_r 1, .inl (cB, 300000, .inl (fun _ => 0))), (v_r 2, .inl (cB, 300000, .inl (fun _ => 0))), (h0, .inr (12, mo v_r (upd (upd (upd (upd (upd (upd (upd (upd (upd (upd (upd (upd (upd (upd (mi0 sd) 0 0) 75 0) 76 ((-1))) 81 0) 84 0) 85 0) 74 0) 21 1) 67 0) 68 0) 69 0) 70 0) 70 1) 69 0) (fun _ => 0))), (v_r 17, .inl (cI, 90000, .inl (upd (upd (fun _ => 0) (0 : Int32).toNatClampNeg ((-1))) (0 : Int32).toNatClampNeg 0))), (v_r 71, .inl (cI, 90000, .inl (upd (fun _ => 0) (0 : Int32).toNatClampNeg 0)))] H := hP
                      have hD : va_D A [(v_r 12, .inl (cI, 90000, .inl (va_cpy (upd (fun _ => 0) (0 : Int32).toNatClampNeg 0) (upd (fun _ => 0) (0 : Int32).toNatClampNeg 0) (0 : Int32).toNatClampNeg (0 : Int32).toNatClampNeg (1 : Int32).toNatClampNeg))), (v_r 13, .inl (cI, 90000, .inl (upd (fun _ => 0) (0 : Int32).toNatClampNeg 0))), (v_r 14, .inl (cI, 90000, .inl (va_cpy (upd (fun _ => 0) (0 : Int32).toNatClampNeg 1) (upd (fun _ => 0) (0 : Int32).toNatClampNeg 1) (0 : Int32).toNatClampNeg (0 : Int32).toNatClampNeg (1 : Int32).toNatClampNeg))), (v_r 15, .inl (cI, 90000, .inl (upd (fun _ => 0) (0 : Int32).toNatClampNeg 0))), (v_r 16, .inl (cI, 90000, .inl (upd (fun _ => 0) (0 : Int32).toNatClampNeg 0))), (v_r 72, .inl (cI, 90000, .inl (upd (fun _ => 0) (0 : Int32).toNatClampNeg 1))), (v_r 10, .inl (cJ, 90000, .inr (.inl (fun _ => 0)))), (v_r 11, .inl (cJ, 90000, .inr (.inl (fun _ => 0)))), (v_r 3, .inl (cI, 120000, .inl (fun _ => 0))), (v_r 5, .inl (cI, 120000, .inl (fun _ => 0))), (v_r 4, .inl (cI, 120000, .inl (fun _ => 0))), (v_r 6, .inl (cI, 120000, .inl (fun _ => 0))), (v_r 1, .inl (cB, 300000, .inl (fun _ => 0))), (v_r 2, .inl (cB, 300000, .inl (fun _ => 0))), (h0, .inr (12, mo v_r (upd (upd (upd (upd (upd (upd (upd (upd (upd (upd (upd (upd (upd (upd (mi0 sd) 0 0) 75 0) 76 ((-1))) 81 0) 84 0) 85 0) 74 0) 21 1) 67 0) 68 0) 69 0) 70 0) 70 1) 69 0) (fun _ => 0))), (v_r 17, .inl (cI, 90000, .inl (upd (upd (fun _ => 0) (0 : Int32).toNatClampNeg ((-1))) (0 : Int32).toNatClampNeg 0))), (v_r 71, .inl (cI, 90000, .inl (upd (fun _ => 0) (0 : Int32).toNatClampNeg 0)))] := hD
                      refine lv_aload_n hx hb d_Model_tidy_408 rfl (lv_at hl 4 rfl) ?_
                      refine va_get (D := (dC, dI)) (ci := 12) (v := .ref (v_r 16)) (C := R_Model) (T := F_Model) (N := 127) hx hb htt iw_Model hown hK hP 14 rfl rfl 16 (by decide) (htt _ lk_Model_176) (fun _ h9 => h9) rfl d_Model_tidy_409 ?_
                      refine lv_iconst (v := 0) hx hb d_Model_tidy_412 (by decide) ?_
                      refine lv_aload_n hx hb d_Model_tidy_413 rfl (lv_at hl 4 rfl) ?_
                      refine va_get (D := (dC, dI)) (ci := 12) (v := .ref (v_r 13)) (C := R_Model) (T := F_Model) (N := 127) hx hb htt iw_Model hown hK hP 14 rfl rfl 13 (by decide) (htt _ lk_Model_47) (fun _ h9 => h9) rfl d_Model_tidy_414 ?_
                      refine lv_iconst (v := 0) hx hb d_Model_tidy_417 (by decide) ?_
                      refine lv_aload_n hx hb d_Model_tidy_418 rfl (lv_at hl 4 rfl) ?_
                      refine va_get (D := (dC, dI)) (ci := 12) (v := .int 1) (C := R_Model) (T := F_Model) (N := 127) hx hb htt iw_Model hown hK hP 14 rfl rfl 70 (by decide) (htt _ lk_Model_399) (fun _ h9 => h9) rfl d_Model_tidy_419 ?_
                      refine va_copyi hx hb (by rw [hml]; exact hl.1.symm) hown (htt _ lk_Model_334) (htt _ na_arraycopy) (htt _ st_arraycopy) (htt _ ini_System) hK hP hD hS 4 1 0 0 (ty := .int) (sp := 0) (dp := 0) (n := 1) rfl rfl rfl rfl rfl (by decide) (by decide) (by decide) (by decide) (by decide) (fun _ _ => rfl) (Nat.le_of_ble_eq_true rfl) (Nat.le_of_ble_eq_true rfl) d_Model_tidy_422 (fun H locs hP hD hS => ?_)
                      have hP : va_P (dC, dI) classes [(v_r 12, .inl (cI, 90000, .inl (va_cpy (upd (fun _ => 0) (0 : Int32).toNatClampNeg 0) (upd (fun _ => 0) (0 : Int32).toNatClampNeg 0) (0 : Int32).toNatClampNeg (0 : Int32).toNatClampNeg (1 : Int32).toNatClampNeg))), (v_r 13, .inl (cI, 90000, .inl (va_cpy (upd (fun _ => 0) (0 : Int32).toNatClampNeg 0) (upd (fun _ => 0) (0 : Int32).toNatClampNeg 0) (0 : Int32).toNatClampNeg (0 : Int32).toNatClampNeg (1 : Int32).toNatClampNeg))), (v_r 14, .inl (cI, 90000, .inl (va_cpy (upd (fun _ => 0) (0 : Int32).toNatClampNeg 1) (upd (fun _ => 0) (0 : Int32).toNatClampNeg 1) (0 : Int32).toNatClampNeg (0 : Int32).toNatClampNeg (1 : Int32).toNatClampNeg))), (v_r 15, .inl (cI, 90000, .inl (upd (fun _ => 0) (0 : Int32).toNatClampNeg 0))), (v_r 16, .inl (cI, 90000, .inl (upd (fun _ => 0) (0 : Int32).toNatClampNeg 0))), (v_r 72, .inl (cI, 90000, .inl (upd (fun _ => 0) (0 : Int32).toNatClampNeg 1))), (v_r 10, .inl (cJ, 90000, .inr (.inl (fun _ => 0)))), (v_r 11, .inl (cJ, 90000, .inr (.inl (fun _ => 0)))), (v_r 3, .inl (cI, 120000, .inl (fun _ => 0))), (v_r 5, .inl (cI, 120000, .inl (fun _ => 0))), (v_r 4, .inl (cI, 120000, .inl (fun _ => 0))), (v_r 6, .inl (cI, 120000, .inl (fun _ => 0))), (v_r 1, .inl (cB, 300000, .inl (fun _ => 0))), (v_r 2, .inl (cB, 300000, .inl (fun _ => 0))), (h0, .inr (12, mo v_r (upd (upd (upd (upd (upd (upd (upd (upd (upd (upd (upd (upd (upd (upd (mi0 sd) 0 0) 75 0) 76 ((-1))) 81 0) 84 0) 85 0) 74 0) 21 1) 67 0) 68 0) 69 0) 70 0) 70 1) 69 0) (fun _ => 0))), (v_r 17, .inl (cI, 90000, .inl (upd (upd (fun _ => 0) (0 : Int32).toNatClampNeg ((-1))) (0 : Int32).toNatClampNeg 0))), (v_r 71, .inl (cI, 90000, .inl (upd (fun _ => 0) (0 : Int32).toNatClampNeg 0)))] H := hP
                      have hD : va_D A [(v_r 12, .inl (cI, 90000, .inl (va_cpy (upd (fun _ => 0) (0 : Int32).toNatClampNeg 0) (upd (fun _ => 0) (0 : Int32).toNatClampNeg 0) (0 : Int32).toNatClampNeg (0 : Int32).toNatClampNeg (1 : Int32).toNatClampNeg))), (v_r 13, .inl (cI, 90000, .inl (va_cpy (upd (fun _ => 0) (0 : Int32).toNatClampNeg 0) (upd (fun _ => 0) (0 : Int32).toNatClampNeg 0) (0 : Int32).toNatClampNeg (0 : Int32).toNatClampNeg (1 : Int32).toNatClampNeg))), (v_r 14, .inl (cI, 90000, .inl (va_cpy (upd (fun _ => 0) (0 : Int32).toNatClampNeg 1) (upd (fun _ => 0) (0 : Int32).toNatClampNeg 1) (0 : Int32).toNatClampNeg (0 : Int32).toNatClampNeg (1 : Int32).toNatClampNeg))), (v_r 15, .inl (cI, 90000, .inl (upd (fun _ => 0) (0 : Int32).toNatClampNeg 0))), (v_r 16, .inl (cI, 90000, .inl (upd (fun _ => 0) (0 : Int32).toNatClampNeg 0))), (v_r 72, .inl (cI, 90000, .inl (upd (fun _ => 0) (0 : Int32).toNatClampNeg 1))), (v_r 10, .inl (cJ, 90000, .inr (.inl (fun _ => 0)))), (v_r 11, .inl (cJ, 90000, .inr (.inl (fun _ => 0)))), (v_r 3, .inl (cI, 120000, .inl (fun _ => 0))), (v_r 5, .inl (cI, 120000, .inl (fun _ => 0))), (v_r 4, .inl (cI, 120000, .inl (fun _ => 0))), (v_r 6, .inl (cI, 120000, .inl (fun _ => 0))), (v_r 1, .inl (cB, 300000, .inl (fun _ => 0))), (v_r 2, .inl (cB, 300000, .inl (fun _ => 0))), (h0, .inr (12, mo v_r (upd (upd (upd (upd (upd (upd (upd (upd (upd (upd (upd (upd (upd (upd (mi0 sd) 0 0) 75 0) 76 ((-1))) 81 0) 84 0) 85 0) 74 0) 21 1) 67 0) 68 0) 69 0) 70 0) 70 1) 69 0) (fun _ => 0))), (v_r 17, .inl (cI, 90000, .inl (upd (upd (fun _ => 0) (0 : Int32).toNatClampNeg ((-1))) (0 : Int32).toNatClampNeg 0))), (v_r 71, .inl (cI, 90000, .inl (upd (fun _ => 0) (0 : Int32).toNatClampNeg 0)))] := hD
                      refine lv_aload_n hx hb d_Model_tidy_425 rfl (lv_at hl 4 rfl) ?_
                      refine va_get (D := (dC, dI)) (ci := 12) (v := .ref (v_r 11)) (C := R_Model) (T := F_Model) (N := 127) hx hb htt iw_Model hown hK hP 14 rfl rfl 11 (by decide) (htt _ lk_Model_170) (fun _ h9 => h9) rfl d_Model_tidy_426 ?_
                      refine lv_iconst (v := 0) hx hb d_Model_tidy_429 (by decide) ?_
                      refine lv_aload_n hx hb d_Model_tidy_430 rfl (lv_at hl 4 rfl) ?_
                      refine va_get (D := (dC, dI)) (ci := 12) (v := .ref (v_r 10)) (C := R_Model) (T := F_Model) (N := 127) hx hb htt iw_Model hown hK hP 14 rfl rfl 10 (by decide) (htt _ lk_Model_35) (fun _ h9 => h9) rfl d_Model_tidy_431 ?_
                      refine lv_iconst (v := 0) hx hb d_Model_tidy_434 (by decide) ?_
                      refine lv_aload_n hx hb d_Model_tidy_435 rfl (lv_at hl 4 rfl) ?_
                      refine va_get (D := (dC, dI)) (ci := 12) (v := .int 0) (C := R_Model) (T := F_Model) (N := 127) hx hb htt iw_Model hown hK hP 14 rfl rfl 69 (by decide) (htt _ lk_Model_402) (fun _ h9 => h9) rfl d_Model_tidy_436 ?_
                      refine va_copyl hx hb (by rw [hml]; exact hl.1.symm) hown (htt _ lk_Model_334) (htt _ na_arraycopy) (htt _ st_arraycopy) (htt _ ini_System) hK hP hD hS 7 6 1 1 (ty := .long) (sp := 0) (dp := 0) (n := 0) rfl rfl rfl rfl rfl (by decide) (by decide) (by decide) (by decide) (by decide) (fun _ _ => rfl) (Nat.le_of_ble_eq_true rfl) (Nat.le_of_ble_eq_true rfl) d_Model_tidy_439 (fun H locs hP hD hS => ?_)
                      have hP : va_P (dC, dI) classes [(v_r 12, .inl (cI, 90000, .inl (va_cpy (upd (fun _ => 0) (0 : Int32).toNatClampNeg 0) (upd (fun _ => 0) (0 : Int32).toNatClampNeg 0) (0 : Int32).toNatClampNeg (0 : Int32).toNatClampNeg (1 : Int32).toNatClampNeg))), (v_r 13, .inl (cI, 90000, .inl (va_cpy (upd (fun _ => 0) (0 : Int32).toNatClampNeg 0) (upd (fun _ => 0) (0 : Int32).toNatClampNeg 0) (0 : Int32).toNatClampNeg (0 : Int32).toNatClampNeg (1 : Int32).toNatClampNeg))), (v_r 14, .inl (cI, 90000, .inl (va_cpy (upd (fun _ => 0) (0 : Int32).toNatClampNeg 1) (upd (fun _ => 0) (0 : Int32).toNatClampNeg 1) (0 : Int32).toNatClampNeg (0 : Int32).toNatClampNeg (1 : Int32).toNatClampNeg))), (v_r 15, .inl (cI, 90000, .inl (upd (fun _ => 0) (0 : Int32).toNatClampNeg 0))), (v_r 16, .inl (cI, 90000, .inl (upd (fun _ => 0) (0 : Int32).toNatClampNeg 0))), (v_r 72, .inl (cI, 90000, .inl (upd (fun _ => 0) (0 : Int32).toNatClampNeg 1))), (v_r 10, .inl (cJ, 90000, .inr (.inl (va_cpy (fun _ => 0) (fun _ => 0) (0 : Int32).toNatClampNeg (0 : Int32).toNatClampNeg (0 : Int32).toNatClampNeg)))), (v_r 11, .inl (cJ, 90000, .inr (.inl (fun _ => 0)))), (v_r 3, .inl (cI, 120000, .inl (fun _ => 0))), (v_r 5, .inl (cI, 120000, .inl (fun _ => 0))), (v_r 4, .inl (cI, 120000, .inl (fun _ => 0))), (v_r 6, .inl (cI, 120000, .inl (fun _ => 0))), (v_r 1, .inl (cB, 300000, .inl (fun _ => 0))), (v_r 2, .inl (cB, 300000, .inl (fun _ => 0))), (h0, .inr (12, mo v_r (upd (upd (upd (upd (upd (upd (upd (upd (upd (upd (upd (upd (upd (upd (mi0 sd) 0 0) 75 0) 76 ((-1))) 81 0) 84 0) 85 0) 74 0) 21 1) 67 0) 68 0) 69 0) 70 0) 70 1) 69 0) (fun _ => 0))), (v_r 17, .inl (cI, 90000, .inl (upd (upd (fun _ => 0) (0 : Int32).toNatClampNeg ((-1))) (0 : Int32).toNatClampNeg 0))), (v_r 71, .inl (cI, 90000, .inl (upd (fun _ => 0) (0 : Int32).toNatClampNeg 0)))] H := hP
                      have hD : va_D A [(v_r 12, .inl (cI, 90000, .inl (va_cpy (upd (fun _ => 0) (0 : Int32).toNatClampNeg 0) (upd (fun _ => 0) (0 : Int32).toNatClampNeg 0) (0 : Int32).toNatClampNeg (0 : Int32).toNatClampNeg (1 : Int32).toNatClampNeg))), (v_r 13, .inl (cI, 90000, .inl (va_cpy (upd (fun _ => 0) (0 : Int32).toNatClampNeg 0) (upd (fun _ => 0) (0 : Int32).toNatClampNeg 0) (0 : Int32).toNatClampNeg (0 : Int32).toNatClampNeg (1 : Int32).toNatClampNeg))), (v_r 14, .inl (cI, 90000, .inl (va_cpy (upd (fun _ => 0) (0 : Int32).toNatClampNeg 1) (upd (fun _ => 0) (0 : Int32).toNatClampNeg 1) (0 : Int32).toNatClampNeg (0 : Int32).toNatClampNeg (1 : Int32).toNatClampNeg))), (v_r 15, .inl (cI, 90000, .inl (upd (fun _ => 0) (0 : Int32).toNatClampNeg 0))), (v_r 16, .inl (cI, 90000, .inl (upd (fun _ => 0) (0 : Int32).toNatClampNeg 0))), (v_r 72, .inl (cI, 90000, .inl (upd (fun _ => 0) (0 : Int32).toNatClampNeg 1))), (v_r 10, .inl (cJ, 90000, .inr (.inl (va_cpy (fun _ => 0) (fun _ => 0) (0 : Int32).toNatClampNeg (0 : Int32).toNatClampNeg (0 : Int32).toNatClampNeg)))), (v_r 11, .inl (cJ, 90000, .inr (.inl (fun _ => 0)))), (v_r 3, .inl (cI, 120000, .inl (fun _ => 0))), (v_r 5, .inl (cI, 120000, .inl (fun _ => 0))), (v_r 4, .inl (cI, 120000, .inl (fun _ => 0))), (v_r 6, .inl (cI, 120000, .inl (fun _ => 0))), (v_r 1, .inl (cB, 300000, .inl (fun _ => 0))), (v_r 2, .inl (cB, 300000, .inl (fun _ => 0))), (h0, .inr (12, mo v_r (upd (upd (upd (upd (upd (upd (upd (upd (upd (upd (upd (upd (upd (upd (mi0 sd) 0 0) 75 0) 76 ((-1))) 81 0) 84 0) 85 0) 74 0) 21 1) 67 0) 68 0) 69 0) 70 0) 70 1) 69 0) (fun _ => 0))), (v_r 17, .inl (cI, 90000, .inl (upd (upd (fun _ => 0) (0 : Int32).toNatClampNeg ((-1))) (0 : Int32).toNatClampNeg 0))), (v_r 71, .inl (cI, 90000, .inl (upd (fun _ => 0) (0 : Int32).toNatClampNeg 0)))] := hD
                      refine lv_aload_n hx hb d_Model_tidy_442 rfl (lv_at hl 4 rfl) ?_
                      refine va_get (D := (dC, dI)) (ci := 12) (v := .ref (v_r 5)) (C := R_Model) (T := F_Model) (N := 127) hx hb htt iw_Model hown hK hP 14 rfl rfl 5 (by decide) (htt _ lk_Model_160) (fun _ h9 => h9) rfl d_Model_tidy_443 ?_
                      refine lv_iconst (v := 0) hx hb d_Model_tidy_446 (by decide) ?_
                      refine lv_aload_n hx hb d_Model_tidy_447 rfl (lv_at hl 4 rfl) ?_
                      refine va_get (D := (dC, dI)) (ci := 12) (v := .ref (v_r 3)) (C := R_Model) (T := F_Model) (N := 127) hx hb htt iw_Model hown hK hP 14 rfl rfl 3 (by decide) (htt _ lk_Model_15) (fun _ h9 => h9) rfl d_Model_tidy_448 ?_
                      refine lv_iconst (v := 0) hx hb d_Model_tidy_451 (by decide) ?_
                      refine lv_aload_n hx hb d_Model_tidy_452 rfl (lv_at hl 4 rfl) ?_
                      refine va_get (D := (dC, dI)) (ci := 12) (v := .int 0) (C := R_Model) (T := F_Model) (N := 127) hx hb htt iw_Model hown hK hP 14 rfl rfl 67 (by decide) (htt _ lk_Model_390) (fun _ h9 => h9) rfl d_Model_tidy_453 ?_
                      refine va_copyi hx hb (by rw [hml]; exact hl.1.symm) hown (htt _ lk_Model_334) (htt _ na_arraycopy) (htt _ st_arraycopy) (htt _ ini_System) hK hP hD hS 9 8 0 0 (ty := .int) (sp := 0) (dp := 0) (n := 0) rfl rfl rfl rfl rfl (by decide) (by decide) (by decide) (by decide) (by decide) (fun _ _ => rfl) (Nat.le_of_ble_eq_true rfl) (Nat.le_of_ble_eq_true rfl) d_Model_tidy_456 (fun H locs hP hD hS => ?_)
                      have hP : va_P (dC, dI) classes [(v_r 12, .inl (cI, 90000, .inl (va_cpy (upd (fun _ => 0) (0 : Int32).toNatClampNeg 0) (upd (fun _ => 0) (0 : Int32).toNatClampNeg 0) (0 : Int32).toNatClampNeg (0 : Int32).toNatClampNeg (1 : Int32).toNatClampNeg))), (v_r 13, .inl (cI, 90000, .inl (va_cpy (upd (fun _ => 0) (0 : Int32).toNatClampNeg 0) (upd (fun _ => 0) (0 : Int32).toNatClampNeg 0) (0 : Int32).toNatClampNeg (0 : Int32).toNatClampNeg (1 : Int32).toNatClampNeg))), (v_r 14, .inl (cI, 90000, .inl (va_cpy (upd (fun _ => 0) (0 : Int32).toNatClampNeg 1) (upd (fun _ => 0) (0 : Int32).toNatClampNeg 1) (0 : Int32).toNatClampNeg (0 : Int32).toNatClampNeg (1 : Int32).toNatClampNeg))), (v_r 15, .inl (cI, 90000, .inl (upd (fun _ => 0) (0 : Int32).toNatClampNeg 0))), (v_r 16, .inl (cI, 90000, .inl (upd (fun _ => 0) (0 : Int32).toNatClampNeg 0))), (v_r 72, .inl (cI, 90000, .inl (upd (fun _ => 0) (0 : Int32).toNatClampNeg 1))), (v_r 10, .inl (cJ, 90000, .inr (.inl (va_cpy (fun _ => 0) (fun _ => 0) (0 : Int32).toNatClampNeg (0 : Int32).toNatClampNeg (0 : Int32).toNatClampNeg)))), (v_r 11, .inl (cJ, 90000, .inr (.inl (fun _ => 0)))), (v_r 3, .inl (cI, 120000, .inl (va_cpy (fun _ => 0) (fun _ => 0) (0 : Int32).toNatClampNeg (0 : Int32).toNatClampNeg (0 : Int32).toNatClampNeg))), (v_r 5, .inl (cI, 120000, .inl (fun _ => 0))), (v_r 4, .inl (cI, 120000, .inl (fun _ => 0))), (v_r 6, .inl (cI, 120000, .inl (fun _ => 0))), (v_r 1, .inl (cB, 300000, .inl (fun _ => 0))), (v_r 2, .inl (cB, 300000, .inl (fun _ => 0))), (h0, .inr (12, mo v_r (upd (upd (upd (upd (upd (upd (upd (upd (upd (upd (upd (upd (upd (upd (mi0 sd) 0 0) 75 0) 76 ((-1))) 81 0) 84 0) 85 0) 74 0) 21 1) 67 0) 68 0) 69 0) 70 0) 70 1) 69 0) (fun _ => 0))), (v_r 17, .inl (cI, 90000, .inl (upd (upd (fun _ => 0) (0 : Int32).toNatClampNeg ((-1))) (0 : Int32).toNatClampNeg 0))), (v_r 71, .inl (cI, 90000, .inl (upd (fun _ => 0) (0 : Int32).toNatClampNeg 0)))] H := hP
                      have hD : va_D A [(v_r 12, .inl (cI, 90000, .inl (va_cpy (upd (fun _ => 0) (0 : Int32).toNatClampNeg 0) (upd (fun _ => 0) (0 : Int32).toNatClampNeg 0) (0 : Int32).toNatClampNeg (0 : Int32).toNatClampNeg (1 : Int32).toNatClampNeg))), (v_r 13, .inl (cI, 90000, .inl (va_cpy (upd (fun _ => 0) (0 : Int32).toNatClampNeg 0) (upd (fun _ => 0) (0 : Int32).toNatClampNeg 0) (0 : Int32).toNatClampNeg (0 : Int32).toNatClampNeg (1 : Int32).toNatClampNeg))), (v_r 14, .inl (cI, 90000, .inl (va_cpy (upd (fun _ => 0) (0 : Int32).toNatClampNeg 1) (upd (fun _ => 0) (0 : Int32).toNatClampNeg 1) (0 : Int32).toNatClampNeg (0 : Int32).toNatClampNeg (1 : Int32).toNatClampNeg))), (v_r 15, .inl (cI, 90000, .inl (upd (fun _ => 0) (0 : Int32).toNatClampNeg 0))), (v_r 16, .inl (cI, 90000, .inl (upd (fun _ => 0) (0 : Int32).toNatClampNeg 0))), (v_r 72, .inl (cI, 90000, .inl (upd (fun _ => 0) (0 : Int32).toNatClampNeg 1))), (v_r 10, .inl (cJ, 90000, .inr (.inl (va_cpy (fun _ => 0) (fun _ => 0) (0 : Int32).toNatClampNeg (0 : Int32).toNatClampNeg (0 : Int32).toNatClampNeg)))), (v_r 11, .inl (cJ, 90000, .inr (.inl (fun _ => 0)))), (v_r 3, .inl (cI, 120000, .inl (va_cpy (fun _ => 0) (fun _ => 0) (0 : Int32).toNatClampNeg (0 : Int32).toNatClampNeg (0 : Int32).toNatClampNeg))), (v_r 5, .inl (cI, 120000, .inl (fun _ => 0))), (v_r 4, .inl (cI, 120000, .inl (fun _ => 0))), (v_r 6, .inl (cI, 120000, .inl (fun _ => 0))), (v_r 1, .inl (cB, 300000, .inl (fun _ => 0))), (v_r 2, .inl (cB, 300000, .inl (fun _ => 0))), (h0, .inr (12, mo v_r (upd (upd (upd (upd (upd (upd (upd (upd (upd (upd (upd (upd (upd (upd (mi0 sd) 0 0) 75 0) 76 ((-1))) 81 0) 84 0) 85 0) 74 0) 21 1) 67 0) 68 0) 69 0) 70 0) 70 1) 69 0) (fun _ => 0))), (v_r 17, .inl (cI, 90000, .inl (upd (upd (fun _ => 0) (0 : Int32).toNatClampNeg ((-1))) (0 : Int32).toNatClampNeg 0))), (v_r 71, .inl (cI, 90000, .inl (upd (fun _ => 0) (0 : Int32).toNatClampNeg 0)))] := hD
                      refine lv_aload_n hx hb d_Model_tidy_459 rfl (lv_at hl 4 rfl) ?_
                      refine va_get (D := (dC, dI)) (ci := 12) (v := .ref (v_r 6)) (C := R_Model) (T := F_Model) (N := 127) hx hb htt iw_Model hown hK hP 14 rfl rfl 6 (by decide) (htt _ lk_Model_163) (fun _ h9 => h9) rfl d_Model_tidy_460 ?_
                      refine lv_iconst (v := 0) hx hb d_Model_tidy_463 (by decide) ?_
                      refine lv_aload_n hx hb d_Model_tidy_464 rfl (lv_at hl 4 rfl) ?_
                      refine va_get (D := (dC, dI)) (ci := 12) (v := .ref (v_r 4)) (C := R_Model) (T := F_Model) (N := 127) hx hb htt iw_Model hown hK hP 14 rfl rfl 4 (by decide) (htt _ lk_Model_22) (fun _ h9 => h9) rfl d_Model_tidy_465 ?_
                      refine lv_iconst (v := 0) hx hb d_Model_tidy_468 (by decide) ?_
                      refine lv_aload_n hx hb d_Model_tidy_469 rfl (lv_at hl 4 rfl) ?_
                      refine va_get (D := (dC, dI)) (ci := 12) (v := .int 0) (C := R_Model) (T := F_Model) (N := 127) hx hb htt iw_Model hown hK hP 14 rfl rfl 67 (by decide) (htt _ lk_Model_390) (fun _ h9 => h9) rfl d_Model_tidy_470 ?_
                      refine va_copyi hx hb (by rw [hml]; exact hl.1.symm) hown (htt _ lk_Model_334) (htt _ na_arraycopy) (htt _ st_arraycopy) (htt _ ini_System) hK hP hD hS 11 10 0 0 (ty := .int) (sp := 0) (dp := 0) (n := 0) rfl rfl rfl rfl rfl (by decide) (by decide) (by decide) (by decide) (by decide) (fun _ _ => rfl) (Nat.le_of_ble_eq_true rfl) (Nat.le_of_ble_eq_true rfl) d_Model_tidy_473 (fun H locs hP hD hS => ?_)
                      have hP : va_P (dC, dI) classes [(v_r 12, .inl (cI, 90000, .inl (va_cpy (upd (fun _ => 0) (0 : Int32).toNatClampNeg 0) (upd (fun _ => 0) (0 : Int32).toNatClampNeg 0) (0 : Int32).toNatClampNeg (0 : Int32).toNatClampNeg (1 : Int32).toNatClampNeg))), (v_r 13, .inl (cI, 90000, .inl (va_cpy (upd (fun _ => 0) (0 : Int32).toNatClampNeg 0) (upd (fun _ => 0) (0 : Int32).toNatClampNeg 0) (0 : Int32).toNatClampNeg (0 : Int32).toNatClampNeg (1 : Int32).toNatClampNeg))), (v_r 14, .inl (cI, 90000, .inl (va_cpy (upd (fun _ => 0) (0 : Int32).toNatClampNeg 1) (upd (fun _ => 0) (0 : Int32).toNatClampNeg 1) (0 : Int32).toNatClampNeg (0 : Int32).toNatClampNeg (1 : Int32).toNatClampNeg))), (v_r 15, .inl (cI, 90000, .inl (upd (fun _ => 0) (0 : Int32).toNatClampNeg 0))), (v_r 16, .inl (cI, 90000, .inl (upd (fun _ => 0) (0 : Int32).toNatClampNeg 0))), (v_r 72, .inl (cI, 90000, .inl (upd (fun _ => 0) (0 : Int32).toNatClampNeg 1))), (v_r 10, .inl (cJ, 90000, .inr (.inl (va_cpy (fun _ => 0) (fun _ => 0) (0 : Int32).toNatClampNeg (0 : Int32).toNatClampNeg (0 : Int32).toNatClampNeg)))), (v_r 11, .inl (cJ, 90000, .inr (.inl (fun _ => 0)))), (v_r 3, .inl (cI, 120000, .inl (va_cpy (fun _ => 0) (fun _ => 0) (0 : Int32).toNatClampNeg (0 : Int32).toNatClampNeg (0 : Int32).toNatClampNeg))), (v_r 5, .inl (cI, 120000, .inl (fun _ => 0))), (v_r 4, .inl (cI, 120000, .inl (va_cpy (fun _ => 0) (fun _ => 0) (0 : Int32).toNatClampNeg (0 : Int32).toNatClampNeg (0 : Int32).toNatClampNeg))), (v_r 6, .inl (cI, 120000, .inl (fun _ => 0))), (v_r 1, .inl (cB, 300000, .inl (fun _ => 0))), (v_r 2, .inl (cB, 300000, .inl (fun _ => 0))), (h0, .inr (12, mo v_r (upd (upd (upd (upd (upd (upd (upd (upd (upd (upd (upd (upd (upd (upd (mi0 sd) 0 0) 75 0) 76 ((-1))) 81 0) 84 0) 85 0) 74 0) 21 1) 67 0) 68 0) 69 0) 70 0) 70 1) 69 0) (fun _ => 0))), (v_r 17, .inl (cI, 90000, .inl (upd (upd (fun _ => 0) (0 : Int32).toNatClampNeg ((-1))) (0 : Int32).toNatClampNeg 0))), (v_r 71, .inl (cI, 90000, .inl (upd (fun _ => 0) (0 : Int32).toNatClampNeg 0)))] H := hP
                      have hD : va_D A [(v_r 12, .inl (cI, 90000, .inl (va_cpy (upd (fun _ => 0) (0 : Int32).toNatClampNeg 0) (upd (fun _ => 0) (0 : Int32).toNatClampNeg 0) (0 : Int32).toNatClampNeg (0 : Int32).toNatClampNeg (1 : Int32).toNatClampNeg))), (v_r 13, .inl (cI, 90000, .inl (va_cpy (upd (fun _ => 0) (0 : Int32).toNatClampNeg 0) (upd (fun _ => 0) (0 : Int32).toNatClampNeg 0) (0 : Int32).toNatClampNeg (0 : Int32).toNatClampNeg (1 : Int32).toNatClampNeg))), (v_r 14, .inl (cI, 90000, .inl (va_cpy (upd (fun _ => 0) (0 : Int32).toNatClampNeg 1) (upd (fun _ => 0) (0 : Int32).toNatClampNeg 1) (0 : Int32).toNatClampNeg (0 : Int32).toNatClampNeg (1 : Int32).toNatClampNeg))), (v_r 15, .inl (cI, 90000, .inl (upd (fun _ => 0) (0 : Int32).toNatClampNeg 0))), (v_r 16, .inl (cI, 90000, .inl (upd (fun _ => 0) (0 : Int32).toNatClampNeg 0))), (v_r 72, .inl (cI, 90000, .inl (upd (fun _ => 0) (0 : Int32).toNatClampNeg 1))), (v_r 10, .inl (cJ, 90000, .inr (.inl (va_cpy (fun _ => 0) (fun _ => 0) (0 : Int32).toNatClampNeg (0 : Int32).toNatClampNeg (0 : Int32).toNatClampNeg)))), (v_r 11, .inl (cJ, 90000, .inr (.inl (fun _ => 0)))), (v_r 3, .inl (cI, 120000, .inl (va_cpy (fun _ => 0) (fun _ => 0) (0 : Int32).toNatClampNeg (0 : Int32).toNatClampNeg (0 : Int32).toNatClampNeg))), (v_r 5, .inl (cI, 120000, .inl (fun _ => 0))), (v_r 4, .inl (cI, 120000, .inl (va_cpy (fun _ => 0) (fun _ => 0) (0 : Int32).toNatClampNeg (0 : Int32).toNatClampNeg (0 : Int32).toNatClampNeg))), (v_r 6, .inl (cI, 120000, .inl (fun _ => 0))), (v_r 1, .inl (cB, 300000, .inl (fun _ => 0))), (v_r 2, .inl (cB, 300000, .inl (fun _ => 0))), (h0, .inr (12, mo v_r (upd (upd (upd (upd (upd (upd (upd (upd (upd (upd (upd (upd (upd (upd (mi0 sd) 0 0) 75 0) 76 ((-1))) 81 0) 84 0) 85 0) 74 0) 21 1) 67 0) 68 0) 69 0) 70 0) 70 1) 69 0) (fun _ => 0))), (v_r 17, .inl (cI, 90000, .inl (upd (upd (fun _ => 0) (0 : Int32).toNatClampNeg ((-1))) (0 : Int32).toNatClampNeg 0))), (v_r 71, .inl (cI, 90000, .inl (upd (fun _ => 0) (0 : Int32).toNatClampNeg 0)))] := hD
                      refine lv_aload_n hx hb d_Model_tidy_476 rfl (lv_at hl 4 rfl) ?_
                      refine va_get (D := (dC, dI)) (ci := 12) (v := .ref (v_r 2)) (C := R_Model) (T := F_Model) (N := 127) hx hb htt iw_Model hown hK hP 14 rfl rfl 2 (by decide) (htt _ lk_Model_156) (fun _ h9 => h9) rfl d_Model_tidy_477 ?_
                      refine lv_iconst (v := 0) hx hb d_Model_tidy_480 (by decide) ?_
                      refine lv_aload_n hx hb d_Model_tidy_481 rfl (lv_at hl 4 rfl) ?_
                      refine va_get (D := (dC, dI)) (ci := 12) (v := .ref (v_r 1)) (C := R_Model) (T := F_Model) (N := 127) hx hb htt iw_Model hown hK hP 14 rfl rfl 1 (by decide) (htt _ lk_Model_67) (fun _ h9 => h9) rfl d_Model_tidy_482 ?_
                      refine lv_iconst (v := 0) hx hb d_Model_tidy_485 (by decide) ?_
                      refine lv_aload_n hx hb d_Model_tidy_486 rfl (lv_at hl 4 rfl) ?_
                      refine va_get (D := (dC, dI)) (ci := 12) (v := .int 0) (C := R_Model) (T := F_Model) (N := 127) hx hb htt iw_Model hown hK hP 14 rfl rfl 68 (by decide) (htt _ lk_Model_387) (fun _ h9 => h9) rfl d_Model_tidy_487 ?_
                      refine va_copyi hx hb (by rw [hml]; exact hl.1.symm) hown (htt _ lk_Model_334) (htt _ na_arraycopy) (htt _ st_arraycopy) (htt _ ini_System) hK hP hD hS 13 12 2 2 (ty := .byte) (sp := 0) (dp := 0) (n := 0) rfl rfl rfl rfl rfl (by decide) (by decide) (by decide) (by decide) (by decide) (fun _ _ => rfl) (Nat.le_of_ble_eq_true rfl) (Nat.le_of_ble_eq_true rfl) d_Model_tidy_490 (fun H locs hP hD hS => ?_)
                      have hP : va_P (dC, dI) classes [(v_r 12, .inl (cI, 90000, .inl (va_cpy (upd (fun _ => 0) (0 : Int32).toNatClampNeg 0) (upd (fun _ => 0) (0 : Int32).toNatClampNeg 0) (0 : Int32).toNatClampNeg (0 : Int32).toNatClampNeg (1 : Int32).toNatClampNeg))), (v_r 13, .inl (cI, 90000, .inl (va_cpy (upd (fun _ => 0) (0 : Int32).toNatClampNeg 0) (upd (fun _ => 0) (0 : Int32).toNatClampNeg 0) (0 : Int32).toNatClampNeg (0 : Int32).toNatClampNeg (1 : Int32).toNatClampNeg))), (v_r 14, .inl (cI, 90000, .inl (va_cpy (upd (fun _ => 0) (0 : Int32).toNatClampNeg 1) (upd (fun _ => 0) (0 : Int32).toNatClampNeg 1) (0 : Int32).toNatClampNeg (0 : Int32).toNatClampNeg (1 : Int32).toNatClampNeg))), (v_r 15, .inl (cI, 90000, .inl (upd (fun _ => 0) (0 : Int32).toNatClampNeg 0))), (v_r 16, .inl (cI, 90000, .inl (upd (fun _ => 0) (0 : Int32).toNatClampNeg 0))), (v_r 72, .inl (cI, 90000, .inl (upd (fun _ => 0) (0 : Int32).toNatClampNeg 1))), (v_r 10, .inl (cJ, 90000, .inr (.inl (va_cpy (fun _ => 0) (fun _ => 0) (0 : Int32).toNatClampNeg (0 : Int32).toNatClampNeg (0 : Int32).toNatClampNeg)))), (v_r 11, .inl (cJ, 90000, .inr (.inl (fun _ => 0)))), (v_r 3, .inl (cI, 120000, .inl (va_cpy (fun _ => 0) (fun _ => 0) (0 : Int32).toNatClampNeg (0 : Int32).toNatClampNeg (0 : Int32).toNatClampNeg))), (v_r 5, .inl (cI, 120000, .inl (fun _ => 0))), (v_r 4, .inl (cI, 120000, .inl (va_cpy (fun _ => 0) (fun _ => 0) (0 : Int32).toNatClampNeg (0 : Int32).toNatClampNeg (0 : Int32).toNatClampNeg))), (v_r 6, .inl (cI, 120000, .inl (fun _ => 0))), (v_r 1, .inl (cB, 300000, .inl (va_cpy (fun _ => 0) (fun _ => 0) (0 : Int32).toNatClampNeg (0 : Int32).toNatClampNeg (0 : Int32).toNatClampNeg))), (v_r 2, .inl (cB, 300000, .inl (fun _ => 0))), (h0, .inr (12, mo v_r (upd (upd (upd (upd (upd (upd (upd (upd (upd (upd (upd (upd (upd (upd (mi0 sd) 0 0) 75 0) 76 ((-1))) 81 0) 84 0) 85 0) 74 0) 21 1) 67 0) 68 0) 69 0) 70 0) 70 1) 69 0) (fun _ => 0))), (v_r 17, .inl (cI, 90000, .inl (upd (upd (fun _ => 0) (0 : Int32).toNatClampNeg ((-1))) (0 : Int32).toNatClampNeg 0))), (v_r 71, .inl (cI, 90000, .inl (upd (fun _ => 0) (0 : Int32).toNatClampNeg 0)))] H := hP
                      have hD : va_D A [(v_r 12, .inl (cI, 90000, .inl (va_cpy (upd (fun _ => 0) (0 : Int32).toNatClampNeg 0) (upd (fun _ => 0) (0 : Int32).toNatClampNeg 0) (0 : Int32).toNatClampNeg (0 : Int32).toNatClampNeg (1 : Int32).toNatClampNeg))), (v_r 13, .inl (cI, 90000, .inl (va_cpy (upd (fun _ => 0) (0 : Int32).toNatClampNeg 0) (upd (fun _ => 0) (0 : Int32).toNatClampNeg 0) (0 : Int32).toNatClampNeg (0 : Int32).toNatClampNeg (1 : Int32).toNatClampNeg))), (v_r 14, .inl (cI, 90000, .inl (va_cpy (upd (fun _ => 0) (0 : Int32).toNatClampNeg 1) (upd (fun _ => 0) (0 : Int32).toNatClampNeg 1) (0 : Int32).toNatClampNeg (0 : Int32).toNatClampNeg (1 : Int32).toNatClampNeg))), (v_r 15, .inl (cI, 90000, .inl (upd (fun _ => 0) (0 : Int32).toNatClampNeg 0))), (v_r 16, .inl (cI, 90000, .inl (upd (fun _ => 0) (0 : Int32).toNatClampNeg 0))), (v_r 72, .inl (cI, 90000, .inl (upd (fun _ => 0) (0 : Int32).toNatClampNeg 1))), (v_r 10, .inl (cJ, 90000, .inr (.inl (va_cpy (fun _ => 0) (fun _ => 0) (0 : Int32).toNatClampNeg (0 : Int32).toNatClampNeg (0 : Int32).toNatClampNeg)))), (v_r 11, .inl (cJ, 90000, .inr (.inl (fun _ => 0)))), (v_r 3, .inl (cI, 120000, .inl (va_cpy (fun _ => 0) (fun _ => 0) (0 : Int32).toNatClampNeg (0 : Int32).toNatClampNeg (0 : Int32).toNatClampNeg))), (v_r 5, .inl (cI, 120000, .inl (fun _ => 0))), (v_r 4, .inl (cI, 120000, .inl (va_cpy (fun _ => 0) (fun _ => 0) (0 : Int32).toNatClampNeg (0 : Int32).toNatClampNeg (0 : Int32).toNatClampNeg))), (v_r 6, .inl (cI, 120000, .inl (fun _ => 0))), (v_r 1, .inl (cB, 300000, .inl (va_cpy (fun _ => 0) (fun _ => 0) (0 : Int32).toNatClampNeg (0 : Int32).toNatClampNeg (0 : Int32).toNatClampNeg))), (v_r 2, .inl (cB, 300000, .inl (fun _ => 0))), (h0, .inr (12, mo v_r (upd (upd (upd (upd (upd (upd (upd (upd (upd (upd (upd (upd (upd (upd (mi0 sd) 0 0) 75 0) 76 ((-1))) 81 0) 84 0) 85 0) 74 0) 21 1) 67 0) 68 0) 69 0) 70 0) 70 1) 69 0) (fun _ => 0))), (v_r 17, .inl (cI, 90000, .inl (upd (upd (fun _ => 0) (0 : Int32).toNatClampNeg ((-1))) (0 : Int32).toNatClampNeg 0))), (v_r 71, .inl (cI, 90000, .inl (upd (fun _ => 0) (0 : Int32).toNatClampNeg 0)))] := hD
                      refine lv_aload_n hx hb d_Model_tidy_493 rfl (lv_at hl 4 rfl) ?_
                      refine lv_aload_n hx hb d_Model_tidy_494 rfl (lv_at hl 4 rfl) ?_
                      refine va_get (D := (dC, dI)) (ci := 12) (v := .int 0) (C := R_Model) (T := F_Model) (N := 127) hx hb htt iw_Model hown hK hP 14 rfl rfl 67 (by decide) (htt _ lk_Model_390) (fun _ h9 => h9) rfl d_Model_tidy_495 ?_
                      refine va_put (D := (dC, dI)) (ci := 12) (v := .int 0) (ty := .int) (C := R_Model) (T := F_Model) (N := 127) hx hb htt iw_Model t_Model t_Model_ok n_Model hown hK hP hD hS 14 rfl rfl 19 (by decide) (htt _ lk_Model_19) (fun _ h9 => h9) rfl (by decide +kernel) rfl rfl (Nat.le_of_ble_eq_true rfl) d_Model_tidy_498 (fun H locs hP hD hS => ?_)
                      have hP : va_P (dC, dI) classes [(v_r 12, .inl (cI, 90000, .inl (va_cpy (upd (fun _ => 0) (0 : Int32).toNatClampNeg 0) (upd (fun _ => 0) (0 : Int32).toNatClampNeg 0) (0 : Int32).toNatClampNeg (0 : Int32).toNatClampNeg (1 : Int32).toNatClampNeg))), (v_r 13, .inl (cI, 90000, .inl (va_cpy (upd (fun _ => 0) (0 : Int32).toNatClampNeg 0) (upd (fun _ => 0) (0 : Int32).toNatClampNeg 0) (0 : Int32).toNatClampNeg (0 : Int32).toNatClampNeg (1 : Int32).toNatClampNeg))), (v_r 14, .inl (cI, 90000, .inl (va_cpy (upd (fun _ => 0) (0 : Int32).toNatClampNeg 1) (upd (fun _ => 0) (0 : Int32).toNatClampNeg 1) (0 : Int32).toNatClampNeg (0 : Int32).toNatClampNeg (1 : Int32).toNatClampNeg))), (v_r 15, .inl (cI, 90000, .inl (upd (fun _ => 0) (0 : Int32).toNatClampNeg 0))), (v_r 16, .inl (cI, 90000, .inl (upd (fun _ => 0) (0 : Int32).toNatClampNeg 0))), (v_r 72, .inl (cI, 90000, .inl (upd (fun _ => 0) (0 : Int32).toNatClampNeg 1))), (v_r 10, .inl (cJ, 90000, .inr (.inl (va_cpy (fun _ => 0) (fun _ => 0) (0 : Int32).toNatClampNeg (0 : Int32).toNatClampNeg (0 : Int32).toNatClampNeg)))), (v_r 11, .inl (cJ, 90000, .inr (.inl (fun _ => 0)))), (v_r 3, .inl (cI, 120000, .inl (va_cpy (fun _ => 0) (fun _ => 0) (0 : Int32).toNatClampNeg (0 : Int32).toNatClampNeg (0 : Int32).toNatClampNeg))), (v_r 5, .inl (cI, 120000, .inl (fun _ => 0))), (v_r 4, .inl (cI, 120000, .inl (va_cpy (fun _ => 0) (fun _ => 0) (0 : Int32).toNatClampNeg (0 : Int32).toNatClampNeg (0 : Int32).toNatClampNeg))), (v_r 6, .inl (cI, 120000, .inl (fun _ => 0))), (v_r 1, .inl (cB, 300000, .inl (va_cpy (fun _ => 0) (fun _ => 0) (0 : Int32).toNatClampNeg (0 : Int32).toNatClampNeg (0 : Int32).toNatClampNeg))), (v_r 2, .inl (cB, 300000, .inl (fun _ => 0))), (h0, .inr (12, mo v_r (upd (upd (upd (upd (upd (upd (upd (upd (upd (upd (upd (upd (upd (upd (upd (mi0 sd) 0 0) 75 0) 76 ((-1))) 81 0) 84 0) 85 0) 74 0) 21 1) 67 0) 68 0) 69 0) 70 0) 70 1) 69 0) 19 0) (fun _ => 0))), (v_r 17, .inl (cI, 90000, .inl (upd (upd (fun _ => 0) (0 : Int32).toNatClampNeg ((-1))) (0 : Int32).toNatClampNeg 0))), (v_r 71, .inl (cI, 90000, .inl (upd (fun _ => 0) (0 : Int32).toNatClampNeg 0)))] H := hP
                      have hD : va_D A [(v_r 12, .inl (cI, 90000, .inl (va_cpy (upd (fun _ => 0) (0 : Int32).toNatClampNeg 0) (upd (fun _ => 0) (0 : Int32).toNatClampNeg 0) (0 : Int32).toNatClampNeg (0 : Int32).toNatClampNeg (1 : Int32).toNatClampNeg))), (v_r 13, .inl (cI, 90000, .inl (va_cpy (upd (fun _ => 0) (0 : Int32).toNatClampNeg 0) (upd (fun _ => 0) (0 : Int32).toNatClampNeg 0) (0 : Int32).toNatClampNeg (0 : Int32).toNatClampNeg (1 : Int32).toNatClampNeg))), (v_r 14, .inl (cI, 90000, .inl (va_cpy (upd (fun _ => 0) (0 : Int32).toNatClampNeg 1) (upd (fun _ => 0) (0 : Int32).toNatClampNeg 1) (0 : Int32).toNatClampNeg (0 : Int32).toNatClampNeg (1 : Int32).toNatClampNeg))), (v_r 15, .inl (cI, 90000, .inl (upd (fun _ => 0) (0 : Int32).toNatClampNeg 0))), (v_r 16, .inl (cI, 90000, .inl (upd (fun _ => 0) (0 : Int32).toNatClampNeg 0))), (v_r 72, .inl (cI, 90000, .inl (upd (fun _ => 0) (0 : Int32).toNatClampNeg 1))), (v_r 10, .inl (cJ, 90000, .inr (.inl (va_cpy (fun _ => 0) (fun _ => 0) (0 : Int32).toNatClampNeg (0 : Int32).toNatClampNeg (0 : Int32).toNatClampNeg)))), (v_r 11, .inl (cJ, 90000, .inr (.inl (fun _ => 0)))), (v_r 3, .inl (cI, 120000, .inl (va_cpy (fun _ => 0) (fun _ => 0) (0 : Int32).toNatClampNeg (0 : Int32).toNatClampNeg (0 : Int32).toNatClampNeg))), (v_r 5, .inl (cI, 120000, .inl (fun _ => 0))), (v_r 4, .inl (cI, 120000, .inl (va_cpy (fun _ => 0) (fun _ => 0) (0 : Int32).toNatClampNeg (0 : Int32).toNatClampNeg (0 : Int32).toNatClampNeg))), (v_r 6, .inl (cI, 120000, .inl (fun _ => 0))), (v_r 1, .inl (cB, 300000, .inl (va_cpy (fun _ => 0) (fun _ => 0) (0 : Int32).toNatClampNeg (0 : Int32).toNatClampNeg (0 : Int32).toNatClampNeg))), (v_r 2, .inl (cB, 300000, .inl (fun _ => 0))), (h0, .inr (12, mo v_r (upd (upd (upd (upd (upd (upd (upd (upd (upd (upd (upd (upd (upd (upd (upd (mi0 sd) 0 0) 75 0) 76 ((-1))) 81 0) 84 0) 85 0) 74 0) 21 1) 67 0) 68 0) 69 0) 70 0) 70 1) 69 0) 19 0) (fun _ => 0))), (v_r 17, .inl (cI, 90000, .inl (upd (upd (fun _ => 0) (0 : Int32).toNatClampNeg ((-1))) (0 : Int32).toNatClampNeg 0))), (v_r 71, .inl (cI, 90000, .inl (upd (fun _ => 0) (0 : Int32).toNatClampNeg 0)))] := hD
                      refine lv_aload_n hx hb d_Model_tidy_501 rfl (lv_at hl 4 rfl) ?_
                      refine lv_aload_n hx hb d_Model_tidy_502 rfl (lv_at hl 4 rfl) ?_
                      refine va_get (D := (dC, dI)) (ci := 12) (v := .int 0) (C := R_Model) (T := F_Model) (N := 127) hx hb htt iw_Model hown hK hP 14 rfl rfl 68 (by decide) (htt _ lk_Model_387) (fun _ h9 => h9) rfl d_Model_tidy_503 ?_
                      refine va_put (D := (dC, dI)) (ci := 12) (v := .int 0) (ty := .int) (C := R_Model) (T := F_Model) (N := 127) hx hb htt iw_Model t_Model t_Model_ok n_Model hown hK hP hD hS 14 rfl rfl 18 (by decide) (htt _ lk_Model_372) (fun _ h9 => h9) rfl (by decide +kernel) rfl rfl (Nat.le_of_ble_eq_true rfl) d_Model_tidy_506 (fun H locs hP hD hS => ?_)
                      have hP : va_P (dC, dI) classes [(v_r 12, .inl (cI, 90000, .inl (va_cpy (upd (fun _ => 0) (0 : Int32).toNatClampNeg 0) (upd (fun _ => 0) (0 : Int32).toNatClampNeg 0) (0 : Int32).toNatClampNeg (0 : Int32).toNatClampNeg (1 : Int32).toNatClampNeg))), (v_r 13, .inl (cI, 90000, .inl (va_cpy (upd (fun _ => 0) (0 : Int32).toNatClampNeg 0) (upd (fun _ => 0) (0 : Int32).toNatClampNeg 0) (0 : Int32).toNatClampNeg (0 : Int32).toNatClampNeg (1 : Int32).toNatClampNeg))), (v_r 14, .inl (cI, 90000, .inl (va_cpy (upd (fun _ => 0) (0 : Int32).toNatClampNeg 1) (upd (fun _ => 0) (0 : Int32).toNatClampNeg 1) (0 : Int32).toNatClampNeg (0 : Int32).toNatClampNeg (1 : Int32).toNatClampNeg))), (v_r 15, .inl (cI, 90000, .inl (upd (fun _ => 0) (0 : Int32).toNatClampNeg 0))), (v_r 16, .inl (cI, 90000, .inl (upd (fun _ => 0) (0 : Int32).toNatClampNeg 0))), (v_r 72, .inl (cI, 90000, .inl (upd (fun _ => 0) (0 : Int32).toNatClampNeg 1))), (v_r 10, .inl (cJ, 90000, .inr (.inl (va_cpy (fun _ => 0) (fun _ => 0) (0 : Int32).toNatClampNeg (0 : Int32).toNatClampNeg (0 : Int32).toNatClampNeg)))), (v_r 11, .inl (cJ, 90000, .inr (.inl (fun _ => 0)))), (v_r 3, .inl (cI, 120000, .inl (va_cpy (fun _ => 0) (fun _ => 0) (0 : Int32).toNatClampNeg (0 : Int32).toNatClampNeg (0 : Int32).toNatClampNeg))), (v_r 5, .inl (cI, 120000, .inl (fun _ => 0))), (v_r 4, .inl (cI, 120000, .inl (va_cpy (fun _ => 0) (fun _ => 0) (0 : Int32).toNatClampNeg (0 : Int32).toNatClampNeg (0 : Int32).toNatClampNeg))), (v_r 6, .inl (cI, 120000, .inl (fun _ => 0))), (v_r 1, .inl (cB, 300000, .inl (va_cpy (fun _ => 0) (fun _ => 0) (0 : Int32).toNatClampNeg (0 : Int32).toNatClampNeg (0 : Int32).toNatClampNeg))), (v_r 2, .inl (cB, 300000, .inl (fun _ => 0))), (h0, .inr (12, mo v_r (upd (upd (upd (upd (upd (upd (upd (upd (upd (upd (upd (upd (upd (upd (upd (upd (mi0 sd) 0 0) 75 0) 76 ((-1))) 81 0) 84 0) 85 0) 74 0) 21 1) 67 0) 68 0) 69 0) 70 0) 70 1) 69 0) 19 0) 18 0) (fun _ => 0))), (v_r 17, .inl (cI, 90000, .inl (upd (upd (fun _ => 0) (0 : Int32).toNatClampNeg ((-1))) (0 : Int32).toNatClampNeg 0))), (v_r 71, .inl (cI, 90000, .inl (upd (fun _ => 0) (0 : Int32).toNatClampNeg 0)))] H := hP
                      have hD : va_D A [(v_r 12, .inl (cI, 90000, .inl (va_cpy (upd (fun _ => 0) (0 : Int32).toNatClampNeg 0) (upd (fun _ => 0) (0 : Int32).toNatClampNeg 0) (0 : Int32).toNatClampNeg (0 : Int32).toNatClampNeg (1 : Int32).toNatClampNeg))), (v_r 13, .inl (cI, 90000, .inl (va_cpy (upd (fun _ => 0) (0 : Int32).toNatClampNeg 0) (upd (fun _ => 0) (0 : Int32).toNatClampNeg 0) (0 : Int32).toNatClampNeg (0 : Int32).toNatClampNeg (1 : Int32).toNatClampNeg))), (v_r 14, .inl (cI, 90000, .inl (va_cpy (upd (fun _ => 0) (0 : Int32).toNatClampNeg 1) (upd (fun _ => 0) (0 : Int32).toNatClampNeg 1) (0 : Int32).toNatClampNeg (0 : Int32).toNatClampNeg (1 : Int32).toNatClampNeg))), (v_r 15, .inl (cI, 90000, .inl (upd (fun _ => 0) (0 : Int32).toNatClampNeg 0))), (v_r 16, .inl (cI, 90000, .inl (upd (fun _ => 0) (0 : Int32).toNatClampNeg 0))), (v_r 72, .inl (cI, 90000, .inl (upd (fun _ => 0) (0 : Int32).toNatClampNeg 1))), (v_r 10, .inl (cJ, 90000, .inr (.inl (va_cpy (fun _ => 0) (fun _ => 0) (0 : Int32).toNatClampNeg (0 : Int32).toNatClampNeg (0 : Int32).toNatClampNeg)))), (v_r 11, .inl (cJ, 90000, .inr (.inl (fun _ => 0)))), (v_r 3, .inl (cI, 120000, .inl (va_cpy (fun _ => 0) (fun _ => 0) (0 : Int32).toNatClampNeg (0 : Int32).toNatClampNeg (0 : Int32).toNatClampNeg))), (v_r 5, .inl (cI, 120000, .inl (fun _ => 0))), (v_r 4, .inl (cI, 120000, .inl (va_cpy (fun _ => 0) (fun _ => 0) (0 : Int32).toNatClampNeg (0 : Int32).toNatClampNeg (0 : Int32).toNatClampNeg))), (v_r 6, .inl (cI, 120000, .inl (fun _ => 0))), (v_r 1, .inl (cB, 300000, .inl (va_cpy (fun _ => 0) (fun _ => 0) (0 : Int32).toNatClampNeg (0 : Int32).toNatClampNeg (0 : Int32).toNatClampNeg))), (v_r 2, .inl (cB, 300000, .inl (fun _ => 0))), (h0, .inr (12, mo v_r (upd (upd (upd (upd (upd (upd (upd (upd (upd (upd (upd (upd (upd (upd (upd (upd (mi0 sd) 0 0) 75 0) 76 ((-1))) 81 0) 84 0) 85 0) 74 0) 21 1) 67 0) 68 0) 69 0) 70 0) 70 1) 69 0) 19 0) 18 0) (fun _ => 0))), (v_r 17, .inl (cI, 90000, .inl (upd (upd (fun _ => 0) (0 : Int32).toNatClampNeg ((-1))) (0 : Int32).toNatClampNeg 0))), (v_r 71, .inl (cI, 90000, .inl (upd (fun _ => 0) (0 : Int32).toNatClampNeg 0)))] := hD
                      refine lv_aload_n hx hb d_Model_tidy_509 rfl (lv_at hl 4 rfl) ?_
                      refine lv_aload_n hx hb d_Model_tidy_510 rfl (lv_at hl 4 rfl) ?_
                      refine va_get (D := (dC, dI)) (ci := 12) (v := .int 0) (C := R_Model) (T := F_Model) (N := 127) hx hb htt iw_Model hown hK hP 14 rfl rfl 69 (by decide) (htt _ lk_Model_402) (fun _ h9 => h9) rfl d_Model_tidy_511 ?_
                      refine va_put (D := (dC, dI)) (ci := 12) (v := .int 0) (ty := .int) (C := R_Model) (T := F_Model) (N := 127) hx hb htt iw_Model t_Model t_Model_ok n_Model hown hK hP hD hS 14 rfl rfl 20 (by decide) (htt _ lk_Model_32) (fun _ h9 => h9) rfl (by decide +kernel) rfl rfl (Nat.le_of_ble_eq_true rfl) d_Model_tidy_514 (fun H locs hP hD hS => ?_)
                      have hP : va_P (dC, dI) classes [(v_r 12, .inl (cI, 90000, .inl (va_cpy (upd (fun _ => 0) (0 : Int32).toNatClampNeg 0) (upd (fun _ => 0) (0 : Int32).toNatClampNeg 0) (0 : Int32).toNatClampNeg (0 : Int32).toNatClampNeg (1 : Int32).toNatClampNeg))), (v_r 13, .inl (cI, 90000, .inl (va_cpy (upd (fun _ => 0) (0 : Int32).toNatClampNeg 0) (upd (fun _ => 0) (0 : Int32).toNatClampNeg 0) (0 : Int32).toNatClampNeg (0 : Int32).toNatClampNeg (1 : Int32).toNatClampNeg))), (v_r 14, .inl (cI, 90000, .inl (va_cpy (upd (fun _ => 0) (0 : Int32).toNatClampNeg 1) (upd (fun _ => 0) (0 : Int32).toNatClampNeg 1) (0 : Int32).toNatClampNeg (0 : Int32).toNatClampNeg (1 : Int32).toNatClampNeg))), (v_r 15, .inl (cI, 90000, .inl (upd (fun _ => 0) (0 : Int32).toNatClampNeg 0))), (v_r 16, .inl (cI, 90000, .inl (upd (fun _ => 0) (0 : Int32).toNatClampNeg 0))), (v_r 72, .inl (cI, 90000, .inl (upd (fun _ => 0) (0 : Int32).toNatClampNeg 1))), (v_r 10, .inl (cJ, 90000, .inr (.inl (va_cpy (fun _ => 0) (fun _ => 0) (0 : Int32).toNatClampNeg (0 : Int32).toNatClampNeg (0 : Int32).toNatClampNeg)))), (v_r 11, .inl (cJ, 90000, .inr (.inl (fun _ => 0)))), (v_r 3, .inl (cI, 120000, .inl (va_cpy (fun _ => 0) (fun _ => 0) (0 : Int32).toNatClampNeg (0 : Int32).toNatClampNeg (0 : Int32).toNatClampNeg))), (v_r 5, .inl (cI, 120000, .inl (fun _ => 0))), (v_r 4, .inl (cI, 120000, .inl (va_cpy (fun _ => 0) (fun _ => 0) (0 : Int32).toNatClampNeg (0 : Int32).toNatClampNeg (0 : Int32).toNatClampNeg))), (v_r 6, .inl (cI, 120000, .inl (fun _ => 0))), (v_r 1, .inl (cB, 300000, .inl (va_cpy (fun _ => 0) (fun _ => 0) (0 : Int32).toNatClampNeg (0 : Int32).toNatClampNeg (0 : Int32).toNatClampNeg))), (v_r 2, .inl (cB, 300000, .inl (fun _ => 0))), (h0, .inr (12, mo v_r (upd (upd (upd (upd (upd (upd (upd (upd (upd (upd (upd (upd (upd (upd (upd (upd (upd (mi0 sd) 0 0) 75 0) 76 ((-1))) 81 0) 84 0) 85 0) 74 0) 21 1) 67 0) 68 0) 69 0) 70 0) 70 1) 69 0) 19 0) 18 0) 20 0) (fun _ => 0))), (v_r 17, .inl (cI, 90000, .inl (upd (upd (fun _ => 0) (0 : Int32).toNatClampNeg ((-1))) (0 : Int32).toNatClampNeg 0))), (v_r 71, .inl (cI, 90000, .inl (upd (fun _ => 0) (0 : Int32).toNatClampNeg 0)))] H := hP
                      have hD : va_D A [(v_r 12, .inl (cI, 90000, .inl (va_cpy (upd (fun _ => 0) (0 : Int32).toNatClampNeg 0) (upd (fun _ => 0) (0 : Int32).toNatClampNeg 0) (0 : Int32).toNatClampNeg (0 : Int32).toNatClampNeg (1 : Int32).toNatClampNeg))), (v_r 13, .inl (cI, 90000, .inl (va_cpy (upd (fun _ => 0) (0 : Int32).toNatClampNeg 0) (upd (fun _ => 0) (0 : Int32).toNatClampNeg 0) (0 : Int32).toNatClampNeg (0 : Int32).toNatClampNeg (1 : Int32).toNatClampNeg))), (v_r 14, .inl (cI, 90000, .inl (va_cpy (upd (fun _ => 0) (0 : Int32).toNatClampNeg 1) (upd (fun _ => 0) (0 : Int32).toNatClampNeg 1) (0 : Int32).toNatClampNeg (0 : Int32).toNatClampNeg (1 : Int32).toNatClampNeg))), (v_r 15, .inl (cI, 90000, .inl (upd (fun _ => 0) (0 : Int32).toNatClampNeg 0))), (v_r 16, .inl (cI, 90000, .inl (upd (fun _ => 0) (0 : Int32).toNatClampNeg 0))), (v_r 72, .inl (cI, 90000, .inl (upd (fun _ => 0) (0 : Int32).toNatClampNeg 1))), (v_r 10, .inl (cJ, 90000, .inr (.inl (va_cpy (fun _ => 0) (fun _ => 0) (0 : Int32).toNatClampNeg (0 : Int32).toNatClampNeg (0 : Int32).toNatClampNeg)))), (v_r 11, .inl (cJ, 90000, .inr (.inl (fun _ => 0)))), (v_r 3, .inl (cI, 120000, .inl (va_cpy (fun _ => 0) (fun _ => 0) (0 : Int32).toNatClampNeg (0 : Int32).toNatClampNeg (0 : Int32).toNatClampNeg))), (v_r 5, .inl (cI, 120000, .inl (fun _ => 0))), (v_r 4, .inl (cI, 120000, .inl (va_cpy (fun _ => 0) (fun _ => 0) (0 : Int32).toNatClampNeg (0 : Int32).toNatClampNeg (0 : Int32).toNatClampNeg))), (v_r 6, .inl (cI, 120000, .inl (fun _ => 0))), (v_r 1, .inl (cB, 300000, .inl (va_cpy (fun _ => 0) (fun _ => 0) (0 : Int32).toNatClampNeg (0 : Int32).toNatClampNeg (0 : Int32).toNatClampNeg))), (v_r 2, .inl (cB, 300000, .inl (fun _ => 0))), (h0, .inr (12, mo v_r (upd (upd (upd (upd (upd (upd (upd (upd (upd (upd (upd (upd (upd (upd (upd (upd (upd (mi0 sd) 0 0) 75 0) 76 ((-1))) 81 0) 84 0) 85 0) 74 0) 21 1) 67 0) 68 0) 69 0) 70 0) 70 1) 69 0) 19 0) 18 0) 20 0) (fun _ => 0))), (v_r 17, .inl (cI, 90000, .inl (upd (upd (fun _ => 0) (0 : Int32).toNatClampNeg ((-1))) (0 : Int32).toNatClampNeg 0))), (v_r 71, .inl (cI, 90000, .inl (upd (fun _ => 0) (0 : Int32).toNatClampNeg 0)))] := hD
                      refine lv_aload_n hx hb d_Model_tidy_517 rfl (lv_at hl 4 rfl) ?_
                      refine lv_aload_n hx hb d_Model_tidy_518 rfl (lv_at hl 4 rfl) ?_
                      refine va_get (D := (dC, dI)) (ci := 12) (v := .int 1) (C := R_Model) (T := F_Model) (N := 127) hx hb htt iw_Model hown hK hP 14 rfl rfl 70 (by decide) (htt _ lk_Model_399) (fun _ h9 => h9) rfl d_Model_tidy_519 ?_
                      refine va_put (D := (dC, dI)) (ci := 12) (v := .int 1) (ty := .int) (C := R_Model) (T := F_Model) (N := 127) hx hb htt iw_Model t_Model t_Model_ok n_Model hown hK hP hD hS 14 rfl rfl 21 (by decide) (htt _ lk_Model_44) (fun _ h9 => h9) rfl (by decide +kernel) rfl rfl (Nat.le_of_ble_eq_true rfl) d_Model_tidy_522 (fun H locs hP hD hS => ?_)
                      have hP : va_P (dC, dI) classes [(v_r 12, .inl (cI, 90000, .inl (va_cpy (upd (fun _ => 0) (0 : Int32).toNatClampNeg 0) (upd (fun _ => 0) (0 : Int32).toNatClampNeg 0) (0 : Int32).toNatClampNeg (0 : Int32).toNatClampNeg (1 : Int32).toNatClampNeg))), (v_r 13, .inl (cI, 90000, .inl (va_cpy (upd (fun _ => 0) (0 : Int32).toNatClampNeg 0) (upd (fun _ => 0) (0 : Int32).toNatClampNeg 0) (0 : Int32).toNatClampNeg (0 : Int32).toNatClampNeg (1 : Int32).toNatClampNeg))), (v_r 14, .inl (cI, 90000, .inl (va_cpy (upd (fun _ => 0) (0 : Int32).toNatClampNeg 1) (upd (fun _ => 0) (0 : Int32).toNatClampNeg 1) (0 : Int32).toNatClampNeg (0 : Int32).toNatClampNeg (1 : Int32).toNatClampNeg))), (v_r 15, .inl (cI, 90000, .inl (upd (fun _ => 0) (0 : Int32).toNatClampNeg 0))), (v_r 16, .inl (cI, 90000, .inl (upd (fun _ => 0) (0 : Int32).toNatClampNeg 0))), (v_r 72, .inl (cI, 90000, .inl (upd (fun _ => 0) (0 : Int32).toNatClampNeg 1))), (v_r 10, .inl (cJ, 90000, .inr (.inl (va_cpy (fun _ => 0) (fun _ => 0) (0 : Int32).toNatClampNeg (0 : Int32).toNatClampNeg (0 : Int32).toNatClampNeg)))), (v_r 11, .inl (cJ, 90000, .inr (.inl (fun _ => 0)))), (v_r 3, .inl (cI, 120000, .inl (va_cpy (fun _ => 0) (fun _ => 0) (0 : Int32).toNatClampNeg (0 : Int32).toNatClampNeg (0 : Int32).toNatClampNeg))), (v_r 5, .inl (cI, 120000, .inl (fun _ => 0))), (v_r 4, .inl (cI, 120000, .inl (va_cpy (fun _ => 0) (fun _ => 0) (0 : Int32).toNatClampNeg (0 : Int32).toNatClampNeg (0 : Int32).toNatClampNeg))), (v_r 6, .inl (cI, 120000, .inl (fun _ => 0))), (v_r 1, .inl (cB, 300000, .inl (va_cpy (fun _ => 0) (fun _ => 0) (0 : Int32).toNatClampNeg (0 : Int32).toNatClampNeg (0 : Int32).toNatClampNeg))), (v_r 2, .inl (cB, 300000, .inl (fun _ => 0))), (h0, .inr (12, mo v_r (upd (upd (upd (upd (upd (upd (upd (upd (upd (upd (upd (upd (upd (upd (upd (upd (upd (upd (mi0 sd) 0 0) 75 0) 76 ((-1))) 81 0) 84 0) 85 0) 74 0) 21 1) 67 0) 68 0) 69 0) 70 0) 70 1) 69 0) 19 0) 18 0) 20 0) 21 1) (fun _ => 0))), (v_r 17, .inl (cI, 90000, .inl (upd (upd (fun _ => 0) (0 : Int32).toNatClampNeg ((-1))) (0 : Int32).toNatClampNeg 0))), (v_r 71, .inl (cI, 90000, .inl (upd (fun _ => 0) (0 : Int32).toNatClampNeg 0)))] H := hP
                      have hD : va_D A [(v_r 12, .inl (cI, 90000, .inl (va_cpy (upd (fun _ => 0) (0 : Int32).toNatClampNeg 0) (upd (fun _ => 0) (0 : Int32).toNatClampNeg 0) (0 : Int32).toNatClampNeg (0 : Int32).toNatClampNeg (1 : Int32).toNatClampNeg))), (v_r 13, .inl (cI, 90000, .inl (va_cpy (upd (fun _ => 0) (0 : Int32).toNatClampNeg 0) (upd (fun _ => 0) (0 : Int32).toNatClampNeg 0) (0 : Int32).toNatClampNeg (0 : Int32).toNatClampNeg (1 : Int32).toNatClampNeg))), (v_r 14, .inl (cI, 90000, .inl (va_cpy (upd (fun _ => 0) (0 : Int32).toNatClampNeg 1) (upd (fun _ => 0) (0 : Int32).toNatClampNeg 1) (0 : Int32).toNatClampNeg (0 : Int32).toNatClampNeg (1 : Int32).toNatClampNeg))), (v_r 15, .inl (cI, 90000, .inl (upd (fun _ => 0) (0 : Int32).toNatClampNeg 0))), (v_r 16, .inl (cI, 90000, .inl (upd (fun _ => 0) (0 : Int32).toNatClampNeg 0))), (v_r 72, .inl (cI, 90000, .inl (upd (fun _ => 0) (0 : Int32).toNatClampNeg 1))), (v_r 10, .inl (cJ, 90000, .inr (.inl (va_cpy (fun _ => 0) (fun _ => 0) (0 : Int32).toNatClampNeg (0 : Int32).toNatClampNeg (0 : Int32).toNatClampNeg)))), (v_r 11, .inl (cJ, 90000, .inr (.inl (fun _ => 0)))), (v_r 3, .inl (cI, 120000, .inl (va_cpy (fun _ => 0) (fun _ => 0) (0 : Int32).toNatClampNeg (0 : Int32).toNatClampNeg (0 : Int32).toNatClampNeg))), (v_r 5, .inl (cI, 120000, .inl (fun _ => 0))), (v_r 4, .inl (cI, 120000, .inl (va_cpy (fun _ => 0) (fun _ => 0) (0 : Int32).toNatClampNeg (0 : Int32).toNatClampNeg (0 : Int32).toNatClampNeg))), (v_r 6, .inl (cI, 120000, .inl (fun _ => 0))), (v_r 1, .inl (cB, 300000, .inl (va_cpy (fun _ => 0) (fun _ => 0) (0 : Int32).toNatClampNeg (0 : Int32).toNatClampNeg (0 : Int32).toNatClampNeg))), (v_r 2, .inl (cB, 300000, .inl (fun _ => 0))), (h0, .inr (12, mo v_r (upd (upd (upd (upd (upd (upd (upd (upd (upd (upd (upd (upd (upd (upd (upd (upd (upd (upd (mi0 sd) 0 0) 75 0) 76 ((-1))) 81 0) 84 0) 85 0) 74 0) 21 1) 67 0) 68 0) 69 0) 70 0) 70 1) 69 0) 19 0) 18 0) 20 0) 21 1) (fun _ => 0))), (v_r 17, .inl (cI, 90000, .inl (upd (upd (fun _ => 0) (0 : Int32).toNatClampNeg ((-1))) (0 : Int32).toNatClampNeg 0))), (v_r 71, .inl (cI, 90000, .inl (upd (fun _ => 0) (0 : Int32).toNatClampNeg 0)))] := hD
                      refine lv_iconst (v := 0) hx hb d_Model_tidy_525 (by decide) ?_
                      refine lv_istore (lv' := [(5, .int 0), (7, .int 0), (6, .int 0), (3, .long 2), (0, .ref h0), (1, .long 2)]) hx hb d_Model_tidy_526 hl (by decide) rfl (fun ls hl => ?_)
                      refine lv_iload hx hb d_Model_tidy_528 (lv_at hl 0 rfl) ?_
                      refine lv_aload_n hx hb d_Model_tidy_530 rfl (lv_at hl 4 rfl) ?_
                      refine va_get (D := (dC, dI)) (ci := 12) (v := .int 0) (C := R_Model) (T := F_Model) (N := 127) hx hb htt iw_Model hown hK hP 14 rfl rfl 19 (by decide) (htt _ lk_Model_19) (fun _ h9 => h9) rfl d_Model_tidy_531 ?_
                      refine lv_icmp_ge (tgt := 561) hx hb d_Model_tidy_534 (by decide) (fun c_28 => ?_) (fun c_28 => ?_)
                      · refine lv_lload_n hx hb d_Model_tidy_561 rfl (lv_at hl 3 rfl) ?_
                        have hP9 := hP.sub (ws' := [(h0, .inr (12, mo v_r (upd (upd (upd (upd (upd (upd (upd (upd (upd (upd (upd (upd (upd (upd (upd (upd (upd (upd (mi0 sd) 0 0) 75 0) 76 ((-1))) 81 0) 84 0) 85 0) 74 0) 21 1) 67 0) 68 0) 69 0) 70 0) 70 1) 69 0) 19 0) 18 0) 20 0) 21 1) (fun _ => 0))), (v_r 12, .inl (cI, 90000, .inl (va_cpy (upd (fun _ => 0) (0 : Int32).toNatClampNeg 0) (upd (fun _ => 0) (0 : Int32).toNatClampNeg 0) (0 : Int32).toNatClampNeg (0 : Int32).toNatClampNeg (1 : Int32).toNatClampNeg))), (v_r 13, .inl (cI, 90000, .inl (va_cpy (upd (fun _ => 0) (0 : Int32).toNatClampNeg 0) (upd (fun _ => 0) (0 : Int32).toNatClampNeg 0) (0 : Int32).toNatClampNeg (0 : Int32).toNatClampNeg (1 : Int32).toNatClampNeg))), (v_r 14, .inl (cI, 90000, .inl (va_cpy (upd (fun _ => 0) (0 : Int32).toNatClampNeg 1) (upd (fun _ => 0) (0 : Int32).toNatClampNeg 1) (0 : Int32).toNatClampNeg (0 : Int32).toNatClampNeg (1 : Int32).toNatClampNeg))), (v_r 17, .inl (cI, 90000, .inl (upd (upd (fun _ => 0) (0 : Int32).toNatClampNeg ((-1))) (0 : Int32).toNatClampNeg 0))), (v_r 71, .inl (cI, 90000, .inl (upd (fun _ => 0) (0 : Int32).toNatClampNeg 0))), (v_r 15, .inl (cI, 90000, .inl (upd (fun _ => 0) (0 : Int32).toNatClampNeg 0))), (v_r 16, .inl (cI, 90000, .inl (upd (fun _ => 0) (0 : Int32).toNatClampNeg 0))), (v_r 72, .inl (cI, 90000, .inl (upd (fun _ => 0) (0 : Int32).toNatClampNeg 1))), (v_r 10, .inl (cJ, 90000, .inr (.inl (va_cpy (fun _ => 0) (fun _ => 0) (0 : Int32).toNatClampNeg (0 : Int32).toNatClampNeg (0 : Int32).toNatClampNeg)))), (v_r 11, .inl (cJ, 90000, .inr (.inl (fun _ => 0)))), (v_r 3, .inl (cI, 120000, .inl (va_cpy (fun _ => 0) (fun _ => 0) (0 : Int32).toNatClampNeg (0 : Int32).toNatClampNeg (0 : Int32).toNatClampNeg))), (v_r 5, .inl (cI, 120000, .inl (fun _ => 0))), (v_r 4, .inl (cI, 120000, .inl (va_cpy (fun _ => 0) (fun _ => 0) (0 : Int32).toNatClampNeg (0 : Int32).toNatClampNeg (0 : Int32).toNatClampNeg))), (v_r 6, .inl (cI, 120000, .inl (fun _ => 0))), (v_r 1, .inl (cB, 300000, .inl (va_cpy (fun _ => 0) (fun _ => 0) (0 : Int32).toNatClampNeg (0 : Int32).toNatClampNeg (0 : Int32).toNatClampNeg))), (v_r 2, .inl (cB, 300000, .inl (fun _ => 0)))]) [14, 0, 1, 2, 15, 16, 3, 4, 5, 6, 7, 8, 9, 10, 11, 12, 13] rfl
                        have hD9 := hD.sub (ws' := [(h0, .inr (12, mo v_r (upd (upd (upd (upd (upd (upd (upd (upd (upd (upd (upd (upd (upd (upd (upd (upd (upd (upd (mi0 sd) 0 0) 75 0) 76 ((-1))) 81 0) 84 0) 85 0) 74 0) 21 1) 67 0) 68 0) 69 0) 70 0) 70 1) 69 0) 19 0) 18 0) 20 0) 21 1) (fun _ => 0))), (v_r 12, .inl (cI, 90000, .inl (va_cpy (upd (fun _ => 0) (0 : Int32).toNatClampNeg 0) (upd (fun _ => 0) (0 : Int32).toNatClampNeg 0) (0 : Int32).toNatClampNeg (0 : Int32).toNatClampNeg (1 : Int32).toNatClampNeg))), (v_r 13, .inl (cI, 90000, .inl (va_cpy (upd (fun _ => 0) (0 : Int32).toNatClampNeg 0) (upd (fun _ => 0) (0 : Int32).toNatClampNeg 0) (0 : Int32).toNatClampNeg (0 : Int32).toNatClampNeg (1 : Int32).toNatClampNeg))), (v_r 14, .inl (cI, 90000, .inl (va_cpy (upd (fun _ => 0) (0 : Int32).toNatClampNeg 1) (upd (fun _ => 0) (0 : Int32).toNatClampNeg 1) (0 : Int32).toNatClampNeg (0 : Int32).toNatClampNeg (1 : Int32).toNatClampNeg))), (v_r 17, .inl (cI, 90000, .inl (upd (upd (fun _ => 0) (0 : Int32).toNatClampNeg ((-1))) (0 : Int32).toNatClampNeg 0))), (v_r 71, .inl (cI, 90000, .inl (upd (fun _ => 0) (0 : Int32).toNatClampNeg 0))), (v_r 15, .inl (cI, 90000, .inl (upd (fun _ => 0) (0 : Int32).toNatClampNeg 0))), (v_r 16, .inl (cI, 90000, .inl (upd (fun _ => 0) (0 : Int32).toNatClampNeg 0))), (v_r 72, .inl (cI, 90000, .inl (upd (fun _ => 0) (0 : Int32).toNatClampNeg 1))), (v_r 10, .inl (cJ, 90000, .inr (.inl (va_cpy (fun _ => 0) (fun _ => 0) (0 : Int32).toNatClampNeg (0 : Int32).toNatClampNeg (0 : Int32).toNatClampNeg)))), (v_r 11, .inl (cJ, 90000, .inr (.inl (fun _ => 0)))), (v_r 3, .inl (cI, 120000, .inl (va_cpy (fun _ => 0) (fun _ => 0) (0 : Int32).toNatClampNeg (0 : Int32).toNatClampNeg (0 : Int32).toNatClampNeg))), (v_r 5, .inl (cI, 120000, .inl (fun _ => 0))), (v_r 4, .inl (cI, 120000, .inl (va_cpy (fun _ => 0) (fun _ => 0) (0 : Int32).toNatClampNeg (0 : Int32).toNatClampNeg (0 : Int32).toNatClampNeg))), (v_r 6, .inl (cI, 120000, .inl (fun _ => 0))), (v_r 1, .inl (cB, 300000, .inl (va_cpy (fun _ => 0) (fun _ => 0) (0 : Int32).toNatClampNeg (0 : Int32).toNatClampNeg (0 : Int32).toNatClampNeg))), (v_r 2, .inl (cB, 300000, .inl (fun _ => 0)))]) [14, 0, 1, 2, 15, 16, 3, 4, 5, 6, 7, 8, 9, 10, 11, 12, 13] (by decide) rfl
                        exact W.lret (v := 2) hx hb hr (fun t9 ht hW => ⟨⟨2, (), rfl, rfl, by rw [ht]; exact hP9, va_K.moved hW.alike hK, hD9⟩, hS.F ht⟩) hS.2.2 d_Model_tidy_562
                      · exact absurd c_28 (by decide)
                    · exact absurd c_27 (by decide)
                · exact absurd c_20 (by decide)
              · exact absurd c_19 (by decide)
          · exact absurd c_6 (by decide)
        · exact absurd c_5 (by decide)
      · exact absurd c_4 (by decide)
  · exact absurd c_1 (by decide)
