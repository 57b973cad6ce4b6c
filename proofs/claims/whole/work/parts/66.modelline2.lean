theorem d_Model_newList_0 : decode b_Model_newList 0 = .ok (.iconst 1, 1) := by decide +kernel
theorem d_Model_newList_1 : decode b_Model_newList 1 = .ok (.istore_n 2, 1) := by decide +kernel
theorem d_Model_newList_2 : decode b_Model_newList 2 = .ok (.aload_n 0, 1) := by decide +kernel
theorem d_Model_newList_3 : decode b_Model_newList 3 = .ok (.getfield 32, 3) := by decide +kernel
theorem d_Model_newList_6 : decode b_Model_newList 6 = .ok (.iload_n 1, 1) := by decide +kernel
theorem d_Model_newList_7 : decode b_Model_newList 7 = .ok (.isub, 1) := by decide +kernel
theorem d_Model_newList_8 : decode b_Model_newList 8 = .ok (.istore_n 3, 1) := by decide +kernel
theorem d_Model_newList_9 : decode b_Model_newList 9 = .ok (.iload_n 3, 1) := by decide +kernel
theorem d_Model_newList_10 : decode b_Model_newList 10 = .ok (.aload_n 0, 1) := by decide +kernel
theorem d_Model_newList_11 : decode b_Model_newList 11 = .ok (.getfield 32, 3) := by decide +kernel
theorem d_Model_newList_14 : decode b_Model_newList 14 = .ok (.if_icmp .ge 22, 3) := by decide +kernel
theorem d_Model_newList_17 : decode b_Model_newList 17 = .ok (.iload_n 2, 1) := by decide +kernel
theorem d_Model_newList_18 : decode b_Model_newList 18 = .ok (.aload_n 0, 1) := by decide +kernel
theorem d_Model_newList_19 : decode b_Model_newList 19 = .ok (.aload_n 0, 1) := by decide +kernel
theorem d_Model_newList_20 : decode b_Model_newList 20 = .ok (.getfield 35, 3) := by decide +kernel
theorem d_Model_newList_23 : decode b_Model_newList 23 = .ok (.iload_n 3, 1) := by decide +kernel
theorem d_Model_newList_24 : decode b_Model_newList 24 = .ok (.laload, 1) := by decide +kernel
theorem d_Model_newList_25 : decode b_Model_newList 25 = .ok (.invokevirtual 38, 3) := by decide +kernel
theorem d_Model_newList_28 : decode b_Model_newList 28 = .ok (.iadd, 1) := by decide +kernel
theorem d_Model_newList_29 : decode b_Model_newList 29 = .ok (.istore_n 2, 1) := by decide +kernel
theorem d_Model_newList_30 : decode b_Model_newList 30 = .ok (.iinc 3 1, 3) := by decide +kernel
theorem d_Model_newList_33 : decode b_Model_newList 33 = .ok (.goto (-24), 3) := by decide +kernel
theorem d_Model_newList_36 : decode b_Model_newList 36 = .ok (.aload_n 0, 1) := by decide +kernel
theorem d_Model_newList_37 : decode b_Model_newList 37 = .ok (.getfield 41, 3) := by decide +kernel
theorem d_Model_newList_40 : decode b_Model_newList 40 = .ok (.aload_n 0, 1) := by decide +kernel
theorem d_Model_newList_41 : decode b_Model_newList 41 = .ok (.getfield 44, 3) := by decide +kernel
theorem d_Model_newList_44 : decode b_Model_newList 44 = .ok (.aload_n 0, 1) := by decide +kernel
theorem d_Model_newList_45 : decode b_Model_newList 45 = .ok (.getfield 32, 3) := by decide +kernel
theorem d_Model_newList_48 : decode b_Model_newList 48 = .ok (.iload_n 1, 1) := by decide +kernel
theorem d_Model_newList_49 : decode b_Model_newList 49 = .ok (.isub, 1) := by decide +kernel
theorem d_Model_newList_50 : decode b_Model_newList 50 = .ok (.iastore, 1) := by decide +kernel
theorem d_Model_newList_51 : decode b_Model_newList 51 = .ok (.aload_n 0, 1) := by decide +kernel
theorem d_Model_newList_52 : decode b_Model_newList 52 = .ok (.getfield 47, 3) := by decide +kernel
theorem d_Model_newList_55 : decode b_Model_newList 55 = .ok (.aload_n 0, 1) := by decide +kernel
theorem d_Model_newList_56 : decode b_Model_newList 56 = .ok (.getfield 44, 3) := by decide +kernel
theorem d_Model_newList_59 : decode b_Model_newList 59 = .ok (.iload_n 1, 1) := by decide +kernel
theorem d_Model_newList_60 : decode b_Model_newList 60 = .ok (.iastore, 1) := by decide +kernel
theorem d_Model_newList_61 : decode b_Model_newList 61 = .ok (.aload_n 0, 1) := by decide +kernel
theorem d_Model_newList_62 : decode b_Model_newList 62 = .ok (.getfield 50, 3) := by decide +kernel
theorem d_Model_newList_65 : decode b_Model_newList 65 = .ok (.aload_n 0, 1) := by decide +kernel
theorem d_Model_newList_66 : decode b_Model_newList 66 = .ok (.getfield 44, 3) := by decide +kernel
theorem d_Model_newList_69 : decode b_Model_newList 69 = .ok (.iload_n 2, 1) := by decide +kernel
theorem d_Model_newList_70 : decode b_Model_newList 70 = .ok (.iastore, 1) := by decide +kernel
theorem d_Model_newList_71 : decode b_Model_newList 71 = .ok (.aload_n 0, 1) := by decide +kernel
theorem d_Model_newList_72 : decode b_Model_newList 72 = .ok (.dup, 1) := by decide +kernel
theorem d_Model_newList_73 : decode b_Model_newList 73 = .ok (.getfield 44, 3) := by decide +kernel
theorem d_Model_newList_76 : decode b_Model_newList 76 = .ok (.iconst 1, 1) := by decide +kernel
theorem d_Model_newList_77 : decode b_Model_newList 77 = .ok (.iadd, 1) := by decide +kernel
theorem d_Model_newList_78 : decode b_Model_newList 78 = .ok (.putfield 44, 3) := by decide +kernel
theorem d_Model_newList_81 : decode b_Model_newList 81 = .ok (.aload_n 0, 1) := by decide +kernel
theorem d_Model_newList_82 : decode b_Model_newList 82 = .ok (.getfield 44, 3) := by decide +kernel
theorem d_Model_newList_85 : decode b_Model_newList 85 = .ok (.iconst 1, 1) := by decide +kernel
theorem d_Model_newList_86 : decode b_Model_newList 86 = .ok (.isub, 1) := by decide +kernel
theorem d_Model_newList_87 : decode b_Model_newList 87 = .ok (.invokestatic 53, 3) := by decide +kernel
theorem d_Model_newList_90 : decode b_Model_newList 90 = .ok (.lreturn, 1) := by decide +kernel
theorem lk_Model_53 : Cond.methodLink "TurtleWorldModel" 53 ⟨"TurtleWorldModel", "listValue", "(I)J"⟩ ∈ tw_T := tw_i10 114 (by decide +kernel) (by decide +kernel)
theorem st_Model_listValue : Cond.static ⟨"TurtleWorldModel", "listValue", "(I)J"⟩ ∈ tw_T := tw_i10 115 (by decide +kernel) (by decide +kernel)
theorem d_Model_within_0 : decode b_Model_within 0 = .ok (.iconst 0, 1) := by decide +kernel
theorem d_Model_within_1 : decode b_Model_within 1 = .ok (.istore_n 3, 1) := by decide +kernel
theorem d_Model_within_2 : decode b_Model_within 2 = .ok (.iload_n 1, 1) := by decide +kernel
theorem d_Model_within_3 : decode b_Model_within 3 = .ok (.istore 4, 2) := by decide +kernel
theorem d_Model_within_5 : decode b_Model_within 5 = .ok (.iload 4, 2) := by decide +kernel
theorem d_Model_within_7 : decode b_Model_within 7 = .ok (.iload_n 2, 1) := by decide +kernel
theorem d_Model_within_8 : decode b_Model_within 8 = .ok (.if_icmp .ge 78, 3) := by decide +kernel
theorem d_Model_within_11 : decode b_Model_within 11 = .ok (.aload_n 0, 1) := by decide +kernel
theorem d_Model_within_12 : decode b_Model_within 12 = .ok (.getfield 276, 3) := by decide +kernel
theorem d_Model_within_15 : decode b_Model_within 15 = .ok (.iload 4, 2) := by decide +kernel
theorem d_Model_within_17 : decode b_Model_within 17 = .ok (.laload, 1) := by decide +kernel
theorem d_Model_within_18 : decode b_Model_within 18 = .ok (.ldc2_w 7, 3) := by decide +kernel
theorem d_Model_within_21 : decode b_Model_within 21 = .ok (.lcmp, 1) := by decide +kernel
theorem d_Model_within_22 : decode b_Model_within 22 = .ok (.ifCond .ne 7, 3) := by decide +kernel
theorem d_Model_within_25 : decode b_Model_within 25 = .ok (.iconst 1, 1) := by decide +kernel
theorem d_Model_within_26 : decode b_Model_within 26 = .ok (.goto 4, 3) := by decide +kernel
theorem d_Model_within_29 : decode b_Model_within 29 = .ok (.iconst 0, 1) := by decide +kernel
theorem d_Model_within_30 : decode b_Model_within 30 = .ok (.istore 5, 2) := by decide +kernel
theorem d_Model_within_32 : decode b_Model_within 32 = .ok (.aload_n 0, 1) := by decide +kernel
theorem d_Model_within_33 : decode b_Model_within 33 = .ok (.iload 5, 2) := by decide +kernel
theorem d_Model_within_35 : decode b_Model_within 35 = .ok (.ifCond .eq 13, 3) := by decide +kernel
theorem d_Model_within_38 : decode b_Model_within 38 = .ok (.aload_n 0, 1) := by decide +kernel
theorem d_Model_within_39 : decode b_Model_within 39 = .ok (.getfield 282, 3) := by decide +kernel
theorem d_Model_within_42 : decode b_Model_within 42 = .ok (.iload 4, 2) := by decide +kernel
theorem d_Model_within_44 : decode b_Model_within 44 = .ok (.laload, 1) := by decide +kernel
theorem d_Model_within_45 : decode b_Model_within 45 = .ok (.goto 10, 3) := by decide +kernel
theorem d_Model_within_48 : decode b_Model_within 48 = .ok (.aload_n 0, 1) := by decide +kernel
theorem d_Model_within_49 : decode b_Model_within 49 = .ok (.getfield 276, 3) := by decide +kernel
theorem d_Model_within_52 : decode b_Model_within 52 = .ok (.iload 4, 2) := by decide +kernel
theorem d_Model_within_54 : decode b_Model_within 54 = .ok (.laload, 1) := by decide +kernel
theorem d_Model_within_55 : decode b_Model_within 55 = .ok (.invokevirtual 465, 3) := by decide +kernel
theorem d_Model_within_58 : decode b_Model_within 58 = .ok (.iinc 3 1, 3) := by decide +kernel
theorem d_Model_within_61 : decode b_Model_within 61 = .ok (.iload 5, 2) := by decide +kernel
theorem d_Model_within_63 : decode b_Model_within 63 = .ok (.ifCond .eq 13, 3) := by decide +kernel
theorem d_Model_within_66 : decode b_Model_within 66 = .ok (.aload_n 0, 1) := by decide +kernel
theorem d_Model_within_67 : decode b_Model_within 67 = .ok (.getfield 273, 3) := by decide +kernel
theorem d_Model_within_70 : decode b_Model_within 70 = .ok (.iload 4, 2) := by decide +kernel
theorem d_Model_within_72 : decode b_Model_within 72 = .ok (.iaload, 1) := by decide +kernel
theorem d_Model_within_73 : decode b_Model_within 73 = .ok (.goto 5, 3) := by decide +kernel
theorem d_Model_within_76 : decode b_Model_within 76 = .ok (.iload 4, 2) := by decide +kernel
theorem d_Model_within_78 : decode b_Model_within 78 = .ok (.istore 4, 2) := by decide +kernel
theorem d_Model_within_80 : decode b_Model_within 80 = .ok (.iinc 4 1, 3) := by decide +kernel
theorem d_Model_within_83 : decode b_Model_within 83 = .ok (.goto (-78), 3) := by decide +kernel
theorem d_Model_within_86 : decode b_Model_within 86 = .ok (.aload_n 0, 1) := by decide +kernel
theorem d_Model_within_87 : decode b_Model_within 87 = .ok (.iload_n 3, 1) := by decide +kernel
theorem d_Model_within_88 : decode b_Model_within 88 = .ok (.invokevirtual 468, 3) := by decide +kernel
theorem d_Model_within_91 : decode b_Model_within 91 = .ok (.lreturn, 1) := by decide +kernel
theorem lk_Model_468 : Cond.methodLink "TurtleWorldModel" 468 ⟨"TurtleWorldModel", "newList", "(I)J"⟩ ∈ tw_T := tw_i10 103 (by decide +kernel) (by decide +kernel)
theorem in_Model_newList : Cond.instanceMethod ⟨"TurtleWorldModel", "newList", "(I)J"⟩ ∈ tw_T := tw_i10 105 (by decide +kernel) (by decide +kernel)
theorem sel_Model_newList : Cond.selects "TurtleWorldModel" ⟨"TurtleWorldModel", "newList", "(I)J"⟩ ⟨"TurtleWorldModel", "newList", "(I)J"⟩ ∈ tw_T := tw_inS 106 (by decide +kernel) (by decide +kernel)
theorem d_Model_listOf_0 : decode b_Model_listOf 0 = .ok (.iload_n 2, 1) := by decide +kernel
theorem d_Model_listOf_1 : decode b_Model_listOf 1 = .ok (.iconst 1, 1) := by decide +kernel
theorem d_Model_listOf_2 : decode b_Model_listOf 2 = .ok (.isub, 1) := by decide +kernel
theorem d_Model_listOf_3 : decode b_Model_listOf 3 = .ok (.istore_n 3, 1) := by decide +kernel
theorem d_Model_listOf_4 : decode b_Model_listOf 4 = .ok (.iload_n 3, 1) := by decide +kernel
theorem d_Model_listOf_5 : decode b_Model_listOf 5 = .ok (.iload_n 1, 1) := by decide +kernel
theorem d_Model_listOf_6 : decode b_Model_listOf 6 = .ok (.if_icmp .lt 51, 3) := by decide +kernel
theorem d_Model_listOf_9 : decode b_Model_listOf 9 = .ok (.aload_n 0, 1) := by decide +kernel
theorem d_Model_listOf_10 : decode b_Model_listOf 10 = .ok (.getfield 276, 3) := by decide +kernel
theorem d_Model_listOf_13 : decode b_Model_listOf 13 = .ok (.iload_n 3, 1) := by decide +kernel
theorem d_Model_listOf_14 : decode b_Model_listOf 14 = .ok (.laload, 1) := by decide +kernel
theorem d_Model_listOf_15 : decode b_Model_listOf 15 = .ok (.ldc2_w 7, 3) := by decide +kernel
theorem d_Model_listOf_18 : decode b_Model_listOf 18 = .ok (.lcmp, 1) := by decide +kernel
theorem d_Model_listOf_19 : decode b_Model_listOf 19 = .ok (.ifCond .ne 32, 3) := by decide +kernel
theorem d_Model_listOf_22 : decode b_Model_listOf 22 = .ok (.aload_n 0, 1) := by decide +kernel
theorem d_Model_listOf_23 : decode b_Model_listOf 23 = .ok (.getfield 273, 3) := by decide +kernel
theorem d_Model_listOf_26 : decode b_Model_listOf 26 = .ok (.iload_n 3, 1) := by decide +kernel
theorem d_Model_listOf_27 : decode b_Model_listOf 27 = .ok (.iaload, 1) := by decide +kernel
theorem d_Model_listOf_28 : decode b_Model_listOf 28 = .ok (.iload_n 3, 1) := by decide +kernel
theorem d_Model_listOf_29 : decode b_Model_listOf 29 = .ok (.if_icmp .eq 22, 3) := by decide +kernel
theorem d_Model_listOf_32 : decode b_Model_listOf 32 = .ok (.aload_n 0, 1) := by decide +kernel
theorem d_Model_listOf_33 : decode b_Model_listOf 33 = .ok (.getfield 282, 3) := by decide +kernel
theorem d_Model_listOf_36 : decode b_Model_listOf 36 = .ok (.iload_n 3, 1) := by decide +kernel
theorem d_Model_listOf_37 : decode b_Model_listOf 37 = .ok (.aload_n 0, 1) := by decide +kernel
theorem d_Model_listOf_38 : decode b_Model_listOf 38 = .ok (.iload_n 3, 1) := by decide +kernel
theorem d_Model_listOf_39 : decode b_Model_listOf 39 = .ok (.iconst 1, 1) := by decide +kernel
theorem d_Model_listOf_40 : decode b_Model_listOf 40 = .ok (.iadd, 1) := by decide +kernel
theorem d_Model_listOf_41 : decode b_Model_listOf 41 = .ok (.aload_n 0, 1) := by decide +kernel
theorem d_Model_listOf_42 : decode b_Model_listOf 42 = .ok (.getfield 273, 3) := by decide +kernel
theorem d_Model_listOf_45 : decode b_Model_listOf 45 = .ok (.iload_n 3, 1) := by decide +kernel
theorem d_Model_listOf_46 : decode b_Model_listOf 46 = .ok (.iaload, 1) := by decide +kernel
theorem d_Model_listOf_47 : decode b_Model_listOf 47 = .ok (.invokevirtual 461, 3) := by decide +kernel
theorem d_Model_listOf_50 : decode b_Model_listOf 50 = .ok (.lastore, 1) := by decide +kernel
theorem d_Model_listOf_51 : decode b_Model_listOf 51 = .ok (.iinc 3 (-1), 3) := by decide +kernel
theorem d_Model_listOf_54 : decode b_Model_listOf 54 = .ok (.goto (-50), 3) := by decide +kernel
theorem d_Model_listOf_57 : decode b_Model_listOf 57 = .ok (.aload_n 0, 1) := by decide +kernel
theorem d_Model_listOf_58 : decode b_Model_listOf 58 = .ok (.iload_n 1, 1) := by decide +kernel
theorem d_Model_listOf_59 : decode b_Model_listOf 59 = .ok (.iload_n 2, 1) := by decide +kernel
theorem d_Model_listOf_60 : decode b_Model_listOf 60 = .ok (.invokevirtual 461, 3) := by decide +kernel
theorem d_Model_listOf_63 : decode b_Model_listOf 63 = .ok (.lreturn, 1) := by decide +kernel
theorem lk_Model_461 : Cond.methodLink "TurtleWorldModel" 461 ⟨"TurtleWorldModel", "within", "(II)J"⟩ ∈ tw_T := tw_i10 95 (by decide +kernel) (by decide +kernel)
theorem in_Model_within : Cond.instanceMethod ⟨"TurtleWorldModel", "within", "(II)J"⟩ ∈ tw_T := tw_i10 97 (by decide +kernel) (by decide +kernel)
theorem sel_Model_within : Cond.selects "TurtleWorldModel" ⟨"TurtleWorldModel", "within", "(II)J"⟩ ⟨"TurtleWorldModel", "within", "(II)J"⟩ ∈ tw_T := tw_inS 104 (by decide +kernel) (by decide +kernel)
theorem d_Model_move_0 : decode b_Model_move 0 = .ok (.lload_n 1, 1) := by decide +kernel
theorem d_Model_move_1 : decode b_Model_move 1 = .ok (.invokestatic 57, 3) := by decide +kernel
theorem d_Model_move_4 : decode b_Model_move 4 = .ok (.ifCond .eq 5, 3) := by decide +kernel
theorem d_Model_move_7 : decode b_Model_move 7 = .ok (.lload_n 1, 1) := by decide +kernel
theorem d_Model_move_8 : decode b_Model_move 8 = .ok (.lreturn, 1) := by decide +kernel
theorem d_Model_move_9 : decode b_Model_move 9 = .ok (.lload_n 1, 1) := by decide +kernel
theorem d_Model_move_10 : decode b_Model_move 10 = .ok (.invokestatic 61, 3) := by decide +kernel
theorem d_Model_move_13 : decode b_Model_move 13 = .ok (.ifCond .eq 15, 3) := by decide +kernel
theorem d_Model_move_16 : decode b_Model_move 16 = .ok (.aload_n 0, 1) := by decide +kernel
theorem d_Model_move_17 : decode b_Model_move 17 = .ok (.lload_n 1, 1) := by decide +kernel
theorem d_Model_move_18 : decode b_Model_move 18 = .ok (.invokestatic 64, 3) := by decide +kernel
theorem d_Model_move_21 : decode b_Model_move 21 = .ok (.invokevirtual 393, 3) := by decide +kernel
theorem d_Model_move_24 : decode b_Model_move 24 = .ok (.invokestatic 396, 3) := by decide +kernel
theorem d_Model_move_27 : decode b_Model_move 27 = .ok (.lreturn, 1) := by decide +kernel
theorem d_Model_move_28 : decode b_Model_move 28 = .ok (.lload_n 1, 1) := by decide +kernel
theorem d_Model_move_29 : decode b_Model_move 29 = .ok (.invokestatic 64, 3) := by decide +kernel
theorem d_Model_move_32 : decode b_Model_move 32 = .ok (.istore_n 3, 1) := by decide +kernel
theorem d_Model_move_33 : decode b_Model_move 33 = .ok (.aload_n 0, 1) := by decide +kernel
theorem d_Model_move_34 : decode b_Model_move 34 = .ok (.getfield 179, 3) := by decide +kernel
theorem d_Model_move_37 : decode b_Model_move 37 = .ok (.iload_n 3, 1) := by decide +kernel
theorem d_Model_move_38 : decode b_Model_move 38 = .ok (.iaload, 1) := by decide +kernel
theorem d_Model_move_39 : decode b_Model_move 39 = .ok (.iconst (-1), 1) := by decide +kernel
theorem d_Model_move_40 : decode b_Model_move 40 = .ok (.if_icmp .ne 33, 3) := by decide +kernel
theorem d_Model_move_43 : decode b_Model_move 43 = .ok (.aload_n 0, 1) := by decide +kernel
theorem d_Model_move_44 : decode b_Model_move 44 = .ok (.getfield 179, 3) := by decide +kernel
theorem d_Model_move_47 : decode b_Model_move 47 = .ok (.iload_n 3, 1) := by decide +kernel
theorem d_Model_move_48 : decode b_Model_move 48 = .ok (.aload_n 0, 1) := by decide +kernel
theorem d_Model_move_49 : decode b_Model_move 49 = .ok (.getfield 399, 3) := by decide +kernel
theorem d_Model_move_52 : decode b_Model_move 52 = .ok (.iastore, 1) := by decide +kernel
theorem d_Model_move_53 : decode b_Model_move 53 = .ok (.aload_n 0, 1) := by decide +kernel
theorem d_Model_move_54 : decode b_Model_move 54 = .ok (.getfield 255, 3) := by decide +kernel
theorem d_Model_move_57 : decode b_Model_move 57 = .ok (.aload_n 0, 1) := by decide +kernel
theorem d_Model_move_58 : decode b_Model_move 58 = .ok (.getfield 399, 3) := by decide +kernel
theorem d_Model_move_61 : decode b_Model_move 61 = .ok (.iload_n 3, 1) := by decide +kernel
theorem d_Model_move_62 : decode b_Model_move 62 = .ok (.iastore, 1) := by decide +kernel
theorem d_Model_move_63 : decode b_Model_move 63 = .ok (.aload_n 0, 1) := by decide +kernel
theorem d_Model_move_64 : decode b_Model_move 64 = .ok (.dup, 1) := by decide +kernel
theorem d_Model_move_65 : decode b_Model_move 65 = .ok (.getfield 399, 3) := by decide +kernel
theorem d_Model_move_68 : decode b_Model_move 68 = .ok (.iconst 1, 1) := by decide +kernel
theorem d_Model_move_69 : decode b_Model_move 69 = .ok (.iadd, 1) := by decide +kernel
theorem d_Model_move_70 : decode b_Model_move 70 = .ok (.putfield 399, 3) := by decide +kernel
theorem d_Model_move_73 : decode b_Model_move 73 = .ok (.aload_n 0, 1) := by decide +kernel
theorem d_Model_move_74 : decode b_Model_move 74 = .ok (.getfield 179, 3) := by decide +kernel
theorem d_Model_move_77 : decode b_Model_move 77 = .ok (.iload_n 3, 1) := by decide +kernel
theorem d_Model_move_78 : decode b_Model_move 78 = .ok (.iaload, 1) := by decide +kernel
theorem d_Model_move_79 : decode b_Model_move 79 = .ok (.invokestatic 53, 3) := by decide +kernel
theorem d_Model_move_82 : decode b_Model_move 82 = .ok (.lreturn, 1) := by decide +kernel
theorem lk_Model_399 : Cond.fieldLink "TurtleWorldModel" 399 "TurtleWorldModel" "listsToo" "I" ∈ tw_T := tw_i8 148 (by decide +kernel) (by decide +kernel)
theorem d_Model_tidy_0 : decode b_Model_tidy 0 = .ok (.iconst 0, 1) := by decide +kernel
theorem d_Model_tidy_1 : decode b_Model_tidy 1 = .ok (.istore_n 3, 1) := by decide +kernel
theorem d_Model_tidy_2 : decode b_Model_tidy 2 = .ok (.iload_n 3, 1) := by decide +kernel
theorem d_Model_tidy_3 : decode b_Model_tidy 3 = .ok (.aload_n 0, 1) := by decide +kernel
theorem d_Model_tidy_4 : decode b_Model_tidy 4 = .ok (.getfield 19, 3) := by decide +kernel
theorem d_Model_tidy_7 : decode b_Model_tidy 7 = .ok (.if_icmp .ge 16, 3) := by decide +kernel
theorem d_Model_tidy_10 : decode b_Model_tidy 10 = .ok (.aload_n 0, 1) := by decide +kernel
theorem d_Model_tidy_11 : decode b_Model_tidy 11 = .ok (.getfield 166, 3) := by decide +kernel
theorem d_Model_tidy_14 : decode b_Model_tidy 14 = .ok (.iload_n 3, 1) := by decide +kernel
theorem d_Model_tidy_15 : decode b_Model_tidy 15 = .ok (.iconst (-1), 1) := by decide +kernel
theorem d_Model_tidy_16 : decode b_Model_tidy 16 = .ok (.iastore, 1) := by decide +kernel
theorem d_Model_tidy_17 : decode b_Model_tidy 17 = .ok (.iinc 3 1, 3) := by decide +kernel
theorem d_Model_tidy_20 : decode b_Model_tidy 20 = .ok (.goto (-18), 3) := by decide +kernel
theorem d_Model_tidy_23 : decode b_Model_tidy 23 = .ok (.iconst 0, 1) := by decide +kernel
theorem d_Model_tidy_24 : decode b_Model_tidy 24 = .ok (.istore_n 3, 1) := by decide +kernel
theorem d_Model_tidy_25 : decode b_Model_tidy 25 = .ok (.iload_n 3, 1) := by decide +kernel
theorem d_Model_tidy_26 : decode b_Model_tidy 26 = .ok (.aload_n 0, 1) := by decide +kernel
theorem d_Model_tidy_27 : decode b_Model_tidy 27 = .ok (.getfield 44, 3) := by decide +kernel
theorem d_Model_tidy_30 : decode b_Model_tidy 30 = .ok (.if_icmp .ge 16, 3) := by decide +kernel
theorem d_Model_tidy_33 : decode b_Model_tidy 33 = .ok (.aload_n 0, 1) := by decide +kernel
theorem d_Model_tidy_34 : decode b_Model_tidy 34 = .ok (.getfield 179, 3) := by decide +kernel
theorem d_Model_tidy_37 : decode b_Model_tidy 37 = .ok (.iload_n 3, 1) := by decide +kernel
theorem d_Model_tidy_38 : decode b_Model_tidy 38 = .ok (.iconst (-1), 1) := by decide +kernel
theorem d_Model_tidy_39 : decode b_Model_tidy 39 = .ok (.iastore, 1) := by decide +kernel
theorem d_Model_tidy_40 : decode b_Model_tidy 40 = .ok (.iinc 3 1, 3) := by decide +kernel
theorem d_Model_tidy_43 : decode b_Model_tidy 43 = .ok (.goto (-18), 3) := by decide +kernel
theorem d_Model_tidy_46 : decode b_Model_tidy 46 = .ok (.aload_n 0, 1) := by decide +kernel
theorem d_Model_tidy_47 : decode b_Model_tidy 47 = .ok (.iconst 0, 1) := by decide +kernel
theorem d_Model_tidy_48 : decode b_Model_tidy 48 = .ok (.putfield 390, 3) := by decide +kernel
theorem d_Model_tidy_51 : decode b_Model_tidy 51 = .ok (.aload_n 0, 1) := by decide +kernel
theorem d_Model_tidy_52 : decode b_Model_tidy 52 = .ok (.iconst 0, 1) := by decide +kernel
theorem d_Model_tidy_53 : decode b_Model_tidy 53 = .ok (.putfield 387, 3) := by decide +kernel
theorem d_Model_tidy_56 : decode b_Model_tidy 56 = .ok (.aload_n 0, 1) := by decide +kernel
theorem d_Model_tidy_57 : decode b_Model_tidy 57 = .ok (.iconst 0, 1) := by decide +kernel
theorem d_Model_tidy_58 : decode b_Model_tidy 58 = .ok (.putfield 402, 3) := by decide +kernel
theorem d_Model_tidy_61 : decode b_Model_tidy 61 = .ok (.aload_n 0, 1) := by decide +kernel
theorem d_Model_tidy_62 : decode b_Model_tidy 62 = .ok (.iconst 0, 1) := by decide +kernel
theorem d_Model_tidy_63 : decode b_Model_tidy 63 = .ok (.putfield 399, 3) := by decide +kernel
theorem d_Model_tidy_66 : decode b_Model_tidy 66 = .ok (.iconst 0, 1) := by decide +kernel
theorem d_Model_tidy_67 : decode b_Model_tidy 67 = .ok (.istore_n 3, 1) := by decide +kernel
theorem d_Model_tidy_68 : decode b_Model_tidy 68 = .ok (.iload_n 3, 1) := by decide +kernel
theorem d_Model_tidy_69 : decode b_Model_tidy 69 = .ok (.aload_n 0, 1) := by decide +kernel
theorem d_Model_tidy_70 : decode b_Model_tidy 70 = .ok (.getfield 344, 3) := by decide +kernel
theorem d_Model_tidy_73 : decode b_Model_tidy 73 = .ok (.if_icmp .ge 87, 3) := by decide +kernel
theorem d_Model_tidy_76 : decode b_Model_tidy 76 = .ok (.aload_n 0, 1) := by decide +kernel
theorem d_Model_tidy_77 : decode b_Model_tidy 77 = .ok (.getfield 183, 3) := by decide +kernel
theorem d_Model_tidy_80 : decode b_Model_tidy 80 = .ok (.iload_n 3, 1) := by decide +kernel
theorem d_Model_tidy_81 : decode b_Model_tidy 81 = .ok (.aload_n 0, 1) := by decide +kernel
theorem d_Model_tidy_82 : decode b_Model_tidy 82 = .ok (.aload_n 0, 1) := by decide +kernel
theorem d_Model_tidy_83 : decode b_Model_tidy 83 = .ok (.getfield 183, 3) := by decide +kernel
theorem d_Model_tidy_86 : decode b_Model_tidy 86 = .ok (.iload_n 3, 1) := by decide +kernel
theorem d_Model_tidy_87 : decode b_Model_tidy 87 = .ok (.iaload, 1) := by decide +kernel
theorem d_Model_tidy_88 : decode b_Model_tidy 88 = .ok (.invokevirtual 393, 3) := by decide +kernel
theorem d_Model_tidy_91 : decode b_Model_tidy 91 = .ok (.iastore, 1) := by decide +kernel
theorem d_Model_tidy_92 : decode b_Model_tidy 92 = .ok (.iconst 0, 1) := by decide +kernel
theorem d_Model_tidy_93 : decode b_Model_tidy 93 = .ok (.istore 4, 2) := by decide +kernel
theorem d_Model_tidy_95 : decode b_Model_tidy 95 = .ok (.iload 4, 2) := by decide +kernel
theorem d_Model_tidy_97 : decode b_Model_tidy 97 = .ok (.aload_n 0, 1) := by decide +kernel
theorem d_Model_tidy_98 : decode b_Model_tidy 98 = .ok (.getfield 186, 3) := by decide +kernel
theorem d_Model_tidy_101 : decode b_Model_tidy 101 = .ok (.iload_n 3, 1) := by decide +kernel
theorem d_Model_tidy_102 : decode b_Model_tidy 102 = .ok (.iaload, 1) := by decide +kernel
theorem d_Model_tidy_103 : decode b_Model_tidy 103 = .ok (.if_icmp .ge 35, 3) := by decide +kernel
theorem d_Model_tidy_106 : decode b_Model_tidy 106 = .ok (.aload_n 0, 1) := by decide +kernel
theorem d_Model_tidy_107 : decode b_Model_tidy 107 = .ok (.getfield 189, 3) := by decide +kernel
theorem d_Model_tidy_110 : decode b_Model_tidy 110 = .ok (.iconst 5, 1) := by decide +kernel
theorem d_Model_tidy_111 : decode b_Model_tidy 111 = .ok (.iload_n 3, 1) := by decide +kernel
theorem d_Model_tidy_112 : decode b_Model_tidy 112 = .ok (.imul, 1) := by decide +kernel
theorem d_Model_tidy_113 : decode b_Model_tidy 113 = .ok (.iload 4, 2) := by decide +kernel
theorem d_Model_tidy_115 : decode b_Model_tidy 115 = .ok (.iadd, 1) := by decide +kernel
theorem d_Model_tidy_116 : decode b_Model_tidy 116 = .ok (.aload_n 0, 1) := by decide +kernel
theorem d_Model_tidy_117 : decode b_Model_tidy 117 = .ok (.aload_n 0, 1) := by decide +kernel
theorem d_Model_tidy_118 : decode b_Model_tidy 118 = .ok (.getfield 189, 3) := by decide +kernel
theorem d_Model_tidy_121 : decode b_Model_tidy 121 = .ok (.iconst 5, 1) := by decide +kernel
theorem d_Model_tidy_122 : decode b_Model_tidy 122 = .ok (.iload_n 3, 1) := by decide +kernel
theorem d_Model_tidy_123 : decode b_Model_tidy 123 = .ok (.imul, 1) := by decide +kernel
theorem d_Model_tidy_124 : decode b_Model_tidy 124 = .ok (.iload 4, 2) := by decide +kernel
theorem d_Model_tidy_126 : decode b_Model_tidy 126 = .ok (.iadd, 1) := by decide +kernel
theorem d_Model_tidy_127 : decode b_Model_tidy 127 = .ok (.iaload, 1) := by decide +kernel
theorem d_Model_tidy_128 : decode b_Model_tidy 128 = .ok (.invokevirtual 393, 3) := by decide +kernel
theorem d_Model_tidy_131 : decode b_Model_tidy 131 = .ok (.iastore, 1) := by decide +kernel
theorem d_Model_tidy_132 : decode b_Model_tidy 132 = .ok (.iinc 4 1, 3) := by decide +kernel
theorem d_Model_tidy_135 : decode b_Model_tidy 135 = .ok (.goto (-40), 3) := by decide +kernel
theorem d_Model_tidy_138 : decode b_Model_tidy 138 = .ok (.aload_n 0, 1) := by decide +kernel
theorem d_Model_tidy_139 : decode b_Model_tidy 139 = .ok (.getfield 192, 3) := by decide +kernel
theorem d_Model_tidy_142 : decode b_Model_tidy 142 = .ok (.iload_n 3, 1) := by decide +kernel
theorem d_Model_tidy_143 : decode b_Model_tidy 143 = .ok (.aload_n 0, 1) := by decide +kernel
theorem d_Model_tidy_144 : decode b_Model_tidy 144 = .ok (.aload_n 0, 1) := by decide +kernel
theorem d_Model_tidy_145 : decode b_Model_tidy 145 = .ok (.getfield 192, 3) := by decide +kernel
theorem d_Model_tidy_148 : decode b_Model_tidy 148 = .ok (.iload_n 3, 1) := by decide +kernel
theorem d_Model_tidy_149 : decode b_Model_tidy 149 = .ok (.laload, 1) := by decide +kernel
theorem d_Model_tidy_150 : decode b_Model_tidy 150 = .ok (.invokevirtual 405, 3) := by decide +kernel
theorem d_Model_tidy_153 : decode b_Model_tidy 153 = .ok (.lastore, 1) := by decide +kernel
theorem d_Model_tidy_154 : decode b_Model_tidy 154 = .ok (.iinc 3 1, 3) := by decide +kernel
theorem d_Model_tidy_157 : decode b_Model_tidy 157 = .ok (.goto (-89), 3) := by decide +kernel
theorem d_Model_tidy_160 : decode b_Model_tidy 160 = .ok (.iconst 0, 1) := by decide +kernel
theorem d_Model_tidy_161 : decode b_Model_tidy 161 = .ok (.istore_n 3, 1) := by decide +kernel
theorem d_Model_tidy_162 : decode b_Model_tidy 162 = .ok (.iload_n 3, 1) := by decide +kernel
theorem d_Model_tidy_163 : decode b_Model_tidy 163 = .ok (.aload_n 0, 1) := by decide +kernel
theorem d_Model_tidy_164 : decode b_Model_tidy 164 = .ok (.getfield 350, 3) := by decide +kernel
theorem d_Model_tidy_167 : decode b_Model_tidy 167 = .ok (.if_icmp .ge 41, 3) := by decide +kernel
theorem d_Model_tidy_170 : decode b_Model_tidy 170 = .ok (.aload_n 0, 1) := by decide +kernel
theorem d_Model_tidy_171 : decode b_Model_tidy 171 = .ok (.getfield 195, 3) := by decide +kernel
theorem d_Model_tidy_174 : decode b_Model_tidy 174 = .ok (.iload_n 3, 1) := by decide +kernel
theorem d_Model_tidy_175 : decode b_Model_tidy 175 = .ok (.aload_n 0, 1) := by decide +kernel
theorem d_Model_tidy_176 : decode b_Model_tidy 176 = .ok (.aload_n 0, 1) := by decide +kernel
theorem d_Model_tidy_177 : decode b_Model_tidy 177 = .ok (.getfield 195, 3) := by decide +kernel
theorem d_Model_tidy_180 : decode b_Model_tidy 180 = .ok (.iload_n 3, 1) := by decide +kernel
theorem d_Model_tidy_181 : decode b_Model_tidy 181 = .ok (.iaload, 1) := by decide +kernel
theorem d_Model_tidy_182 : decode b_Model_tidy 182 = .ok (.invokevirtual 393, 3) := by decide +kernel
theorem d_Model_tidy_185 : decode b_Model_tidy 185 = .ok (.iastore, 1) := by decide +kernel
theorem d_Model_tidy_186 : decode b_Model_tidy 186 = .ok (.aload_n 0, 1) := by decide +kernel
theorem d_Model_tidy_187 : decode b_Model_tidy 187 = .ok (.getfield 198, 3) := by decide +kernel
theorem d_Model_tidy_190 : decode b_Model_tidy 190 = .ok (.iload_n 3, 1) := by decide +kernel
theorem d_Model_tidy_191 : decode b_Model_tidy 191 = .ok (.aload_n 0, 1) := by decide +kernel
theorem d_Model_tidy_192 : decode b_Model_tidy 192 = .ok (.aload_n 0, 1) := by decide +kernel
theorem d_Model_tidy_193 : decode b_Model_tidy 193 = .ok (.getfield 198, 3) := by decide +kernel
theorem d_Model_tidy_196 : decode b_Model_tidy 196 = .ok (.iload_n 3, 1) := by decide +kernel
theorem d_Model_tidy_197 : decode b_Model_tidy 197 = .ok (.laload, 1) := by decide +kernel
theorem d_Model_tidy_198 : decode b_Model_tidy 198 = .ok (.invokevirtual 405, 3) := by decide +kernel
theorem d_Model_tidy_201 : decode b_Model_tidy 201 = .ok (.lastore, 1) := by decide +kernel
theorem d_Model_tidy_202 : decode b_Model_tidy 202 = .ok (.iinc 3 1, 3) := by decide +kernel
theorem d_Model_tidy_205 : decode b_Model_tidy 205 = .ok (.goto (-43), 3) := by decide +kernel
theorem d_Model_tidy_208 : decode b_Model_tidy 208 = .ok (.aload_n 0, 1) := by decide +kernel
theorem d_Model_tidy_209 : decode b_Model_tidy 209 = .ok (.lload_n 1, 1) := by decide +kernel
theorem d_Model_tidy_210 : decode b_Model_tidy 210 = .ok (.invokevirtual 405, 3) := by decide +kernel
theorem d_Model_tidy_213 : decode b_Model_tidy 213 = .ok (.lstore_n 3, 1) := by decide +kernel
theorem d_Model_tidy_214 : decode b_Model_tidy 214 = .ok (.iconst 0, 1) := by decide +kernel
theorem d_Model_tidy_215 : decode b_Model_tidy 215 = .ok (.istore 5, 2) := by decide +kernel
theorem d_Model_tidy_217 : decode b_Model_tidy 217 = .ok (.iload 5, 2) := by decide +kernel
theorem d_Model_tidy_219 : decode b_Model_tidy 219 = .ok (.aload_n 0, 1) := by decide +kernel
theorem d_Model_tidy_220 : decode b_Model_tidy 220 = .ok (.getfield 399, 3) := by decide +kernel
theorem d_Model_tidy_223 : decode b_Model_tidy 223 = .ok (.if_icmp .ge 114, 3) := by decide +kernel
theorem d_Model_tidy_226 : decode b_Model_tidy 226 = .ok (.aload_n 0, 1) := by decide +kernel
theorem d_Model_tidy_227 : decode b_Model_tidy 227 = .ok (.getfield 255, 3) := by decide +kernel
theorem d_Model_tidy_230 : decode b_Model_tidy 230 = .ok (.iload 5, 2) := by decide +kernel
theorem d_Model_tidy_232 : decode b_Model_tidy 232 = .ok (.iaload, 1) := by decide +kernel
theorem d_Model_tidy_233 : decode b_Model_tidy 233 = .ok (.istore 6, 2) := by decide +kernel
theorem d_Model_tidy_235 : decode b_Model_tidy 235 = .ok (.aload_n 0, 1) := by decide +kernel
theorem d_Model_tidy_236 : decode b_Model_tidy 236 = .ok (.getfield 173, 3) := by decide +kernel
theorem d_Model_tidy_239 : decode b_Model_tidy 239 = .ok (.iload 5, 2) := by decide +kernel
theorem d_Model_tidy_241 : decode b_Model_tidy 241 = .ok (.aload_n 0, 1) := by decide +kernel
theorem d_Model_tidy_242 : decode b_Model_tidy 242 = .ok (.getfield 402, 3) := by decide +kernel
theorem d_Model_tidy_245 : decode b_Model_tidy 245 = .ok (.iastore, 1) := by decide +kernel
theorem d_Model_tidy_246 : decode b_Model_tidy 246 = .ok (.aload_n 0, 1) := by decide +kernel
theorem d_Model_tidy_247 : decode b_Model_tidy 247 = .ok (.getfield 176, 3) := by decide +kernel
theorem d_Model_tidy_250 : decode b_Model_tidy 250 = .ok (.iload 5, 2) := by decide +kernel
theorem d_Model_tidy_252 : decode b_Model_tidy 252 = .ok (.aload_n 0, 1) := by decide +kernel
theorem d_Model_tidy_253 : decode b_Model_tidy 253 = .ok (.getfield 47, 3) := by decide +kernel
theorem d_Model_tidy_256 : decode b_Model_tidy 256 = .ok (.iload 6, 2) := by decide +kernel
theorem d_Model_tidy_258 : decode b_Model_tidy 258 = .ok (.iaload, 1) := by decide +kernel
theorem d_Model_tidy_259 : decode b_Model_tidy 259 = .ok (.iastore, 1) := by decide +kernel
theorem d_Model_tidy_260 : decode b_Model_tidy 260 = .ok (.aload_n 0, 1) := by decide +kernel
theorem d_Model_tidy_261 : decode b_Model_tidy 261 = .ok (.dup, 1) := by decide +kernel
theorem d_Model_tidy_262 : decode b_Model_tidy 262 = .ok (.getfield 402, 3) := by decide +kernel
theorem d_Model_tidy_265 : decode b_Model_tidy 265 = .ok (.aload_n 0, 1) := by decide +kernel
theorem d_Model_tidy_266 : decode b_Model_tidy 266 = .ok (.getfield 47, 3) := by decide +kernel
theorem d_Model_tidy_269 : decode b_Model_tidy 269 = .ok (.iload 6, 2) := by decide +kernel
theorem d_Model_tidy_271 : decode b_Model_tidy 271 = .ok (.iaload, 1) := by decide +kernel
theorem d_Model_tidy_272 : decode b_Model_tidy 272 = .ok (.iadd, 1) := by decide +kernel
theorem d_Model_tidy_273 : decode b_Model_tidy 273 = .ok (.putfield 402, 3) := by decide +kernel
theorem d_Model_tidy_276 : decode b_Model_tidy 276 = .ok (.iconst 0, 1) := by decide +kernel
theorem d_Model_tidy_277 : decode b_Model_tidy 277 = .ok (.istore 7, 2) := by decide +kernel
theorem d_Model_tidy_279 : decode b_Model_tidy 279 = .ok (.iload 7, 2) := by decide +kernel
theorem d_Model_tidy_281 : decode b_Model_tidy 281 = .ok (.aload_n 0, 1) := by decide +kernel
theorem d_Model_tidy_282 : decode b_Model_tidy 282 = .ok (.getfield 47, 3) := by decide +kernel
theorem d_Model_tidy_285 : decode b_Model_tidy 285 = .ok (.iload 6, 2) := by decide +kernel
theorem d_Model_tidy_287 : decode b_Model_tidy 287 = .ok (.iaload, 1) := by decide +kernel
theorem d_Model_tidy_288 : decode b_Model_tidy 288 = .ok (.if_icmp .ge 43, 3) := by decide +kernel
theorem d_Model_tidy_291 : decode b_Model_tidy 291 = .ok (.aload_n 0, 1) := by decide +kernel
theorem d_Model_tidy_292 : decode b_Model_tidy 292 = .ok (.getfield 170, 3) := by decide +kernel
theorem d_Model_tidy_295 : decode b_Model_tidy 295 = .ok (.aload_n 0, 1) := by decide +kernel
theorem d_Model_tidy_296 : decode b_Model_tidy 296 = .ok (.getfield 173, 3) := by decide +kernel
theorem d_Model_tidy_299 : decode b_Model_tidy 299 = .ok (.iload 5, 2) := by decide +kernel
theorem d_Model_tidy_301 : decode b_Model_tidy 301 = .ok (.iaload, 1) := by decide +kernel
theorem d_Model_tidy_302 : decode b_Model_tidy 302 = .ok (.iload 7, 2) := by decide +kernel
theorem d_Model_tidy_304 : decode b_Model_tidy 304 = .ok (.iadd, 1) := by decide +kernel
theorem d_Model_tidy_305 : decode b_Model_tidy 305 = .ok (.aload_n 0, 1) := by decide +kernel
theorem d_Model_tidy_306 : decode b_Model_tidy 306 = .ok (.aload_n 0, 1) := by decide +kernel
theorem d_Model_tidy_307 : decode b_Model_tidy 307 = .ok (.getfield 35, 3) := by decide +kernel
theorem d_Model_tidy_310 : decode b_Model_tidy 310 = .ok (.aload_n 0, 1) := by decide +kernel
theorem d_Model_tidy_311 : decode b_Model_tidy 311 = .ok (.getfield 41, 3) := by decide +kernel
theorem d_Model_tidy_314 : decode b_Model_tidy 314 = .ok (.iload 6, 2) := by decide +kernel
theorem d_Model_tidy_316 : decode b_Model_tidy 316 = .ok (.iaload, 1) := by decide +kernel
theorem d_Model_tidy_317 : decode b_Model_tidy 317 = .ok (.iload 7, 2) := by decide +kernel
theorem d_Model_tidy_319 : decode b_Model_tidy 319 = .ok (.iadd, 1) := by decide +kernel
theorem d_Model_tidy_320 : decode b_Model_tidy 320 = .ok (.laload, 1) := by decide +kernel
theorem d_Model_tidy_321 : decode b_Model_tidy 321 = .ok (.invokevirtual 405, 3) := by decide +kernel
theorem d_Model_tidy_324 : decode b_Model_tidy 324 = .ok (.lastore, 1) := by decide +kernel
theorem d_Model_tidy_325 : decode b_Model_tidy 325 = .ok (.iinc 7 1, 3) := by decide +kernel
theorem d_Model_tidy_328 : decode b_Model_tidy 328 = .ok (.goto (-49), 3) := by decide +kernel
theorem d_Model_tidy_331 : decode b_Model_tidy 331 = .ok (.iinc 5 1, 3) := by decide +kernel
theorem d_Model_tidy_334 : decode b_Model_tidy 334 = .ok (.goto (-117), 3) := by decide +kernel
theorem d_Model_tidy_337 : decode b_Model_tidy 337 = .ok (.iconst 0, 1) := by decide +kernel
theorem d_Model_tidy_338 : decode b_Model_tidy 338 = .ok (.istore 5, 2) := by decide +kernel
theorem d_Model_tidy_340 : decode b_Model_tidy 340 = .ok (.iload 5, 2) := by decide +kernel
theorem d_Model_tidy_342 : decode b_Model_tidy 342 = .ok (.aload_n 0, 1) := by decide +kernel
theorem d_Model_tidy_343 : decode b_Model_tidy 343 = .ok (.getfield 399, 3) := by decide +kernel
theorem d_Model_tidy_346 : decode b_Model_tidy 346 = .ok (.if_icmp .ge 28, 3) := by decide +kernel
theorem d_Model_tidy_349 : decode b_Model_tidy 349 = .ok (.aload_n 0, 1) := by decide +kernel
theorem d_Model_tidy_350 : decode b_Model_tidy 350 = .ok (.getfield 258, 3) := by decide +kernel
theorem d_Model_tidy_353 : decode b_Model_tidy 353 = .ok (.iload 5, 2) := by decide +kernel
theorem d_Model_tidy_355 : decode b_Model_tidy 355 = .ok (.aload_n 0, 1) := by decide +kernel
theorem d_Model_tidy_356 : decode b_Model_tidy 356 = .ok (.getfield 50, 3) := by decide +kernel
theorem d_Model_tidy_359 : decode b_Model_tidy 359 = .ok (.aload_n 0, 1) := by decide +kernel
theorem d_Model_tidy_360 : decode b_Model_tidy 360 = .ok (.getfield 255, 3) := by decide +kernel
theorem d_Model_tidy_363 : decode b_Model_tidy 363 = .ok (.iload 5, 2) := by decide +kernel
theorem d_Model_tidy_365 : decode b_Model_tidy 365 = .ok (.iaload, 1) := by decide +kernel
theorem d_Model_tidy_366 : decode b_Model_tidy 366 = .ok (.iaload, 1) := by decide +kernel
theorem d_Model_tidy_367 : decode b_Model_tidy 367 = .ok (.iastore, 1) := by decide +kernel
theorem d_Model_tidy_368 : decode b_Model_tidy 368 = .ok (.iinc 5 1, 3) := by decide +kernel
theorem d_Model_tidy_371 : decode b_Model_tidy 371 = .ok (.goto (-31), 3) := by decide +kernel
theorem d_Model_tidy_374 : decode b_Model_tidy 374 = .ok (.aload_n 0, 1) := by decide +kernel
theorem d_Model_tidy_375 : decode b_Model_tidy 375 = .ok (.getfield 258, 3) := by decide +kernel
theorem d_Model_tidy_378 : decode b_Model_tidy 378 = .ok (.iconst 0, 1) := by decide +kernel
theorem d_Model_tidy_379 : decode b_Model_tidy 379 = .ok (.aload_n 0, 1) := by decide +kernel
theorem d_Model_tidy_380 : decode b_Model_tidy 380 = .ok (.getfield 50, 3) := by decide +kernel
theorem d_Model_tidy_383 : decode b_Model_tidy 383 = .ok (.iconst 0, 1) := by decide +kernel
theorem d_Model_tidy_384 : decode b_Model_tidy 384 = .ok (.aload_n 0, 1) := by decide +kernel
theorem d_Model_tidy_385 : decode b_Model_tidy 385 = .ok (.getfield 399, 3) := by decide +kernel
theorem d_Model_tidy_388 : decode b_Model_tidy 388 = .ok (.invokestatic 334, 3) := by decide +kernel
theorem d_Model_tidy_391 : decode b_Model_tidy 391 = .ok (.aload_n 0, 1) := by decide +kernel
theorem d_Model_tidy_392 : decode b_Model_tidy 392 = .ok (.getfield 173, 3) := by decide +kernel
theorem d_Model_tidy_395 : decode b_Model_tidy 395 = .ok (.iconst 0, 1) := by decide +kernel
theorem d_Model_tidy_396 : decode b_Model_tidy 396 = .ok (.aload_n 0, 1) := by decide +kernel
theorem d_Model_tidy_397 : decode b_Model_tidy 397 = .ok (.getfield 41, 3) := by decide +kernel
theorem d_Model_tidy_400 : decode b_Model_tidy 400 = .ok (.iconst 0, 1) := by decide +kernel
theorem d_Model_tidy_401 : decode b_Model_tidy 401 = .ok (.aload_n 0, 1) := by decide +kernel
theorem d_Model_tidy_402 : decode b_Model_tidy 402 = .ok (.getfield 399, 3) := by decide +kernel
theorem d_Model_tidy_405 : decode b_Model_tidy 405 = .ok (.invokestatic 334, 3) := by decide +kernel
theorem d_Model_tidy_408 : decode b_Model_tidy 408 = .ok (.aload_n 0, 1) := by decide +kernel
theorem d_Model_tidy_409 : decode b_Model_tidy 409 = .ok (.getfield 176, 3) := by decide +kernel
theorem d_Model_tidy_412 : decode b_Model_tidy 412 = .ok (.iconst 0, 1) := by decide +kernel
theorem d_Model_tidy_413 : decode b_Model_tidy 413 = .ok (.aload_n 0, 1) := by decide +kernel
theorem d_Model_tidy_414 : decode b_Model_tidy 414 = .ok (.getfield 47, 3) := by decide +kernel
theorem d_Model_tidy_417 : decode b_Model_tidy 417 = .ok (.iconst 0, 1) := by decide +kernel
theorem d_Model_tidy_418 : decode b_Model_tidy 418 = .ok (.aload_n 0, 1) := by decide +kernel
theorem d_Model_tidy_419 : decode b_Model_tidy 419 = .ok (.getfield 399, 3) := by decide +kernel
theorem d_Model_tidy_422 : decode b_Model_tidy 422 = .ok (.invokestatic 334, 3) := by decide +kernel
theorem d_Model_tidy_425 : decode b_Model_tidy 425 = .ok (.aload_n 0, 1) := by decide +kernel
theorem d_Model_tidy_426 : decode b_Model_tidy 426 = .ok (.getfield 170, 3) := by decide +kernel
theorem d_Model_tidy_429 : decode b_Model_tidy 429 = .ok (.iconst 0, 1) := by decide +kernel
theorem d_Model_tidy_430 : decode b_Model_tidy 430 = .ok (.aload_n 0, 1) := by decide +kernel
theorem d_Model_tidy_431 : decode b_Model_tidy 431 = .ok (.getfield 35, 3) := by decide +kernel
theorem d_Model_tidy_434 : decode b_Model_tidy 434 = .ok (.iconst 0, 1) := by decide +kernel
theorem d_Model_tidy_435 : decode b_Model_tidy 435 = .ok (.aload_n 0, 1) := by decide +kernel
theorem d_Model_tidy_436 : decode b_Model_tidy 436 = .ok (.getfield 402, 3) := by decide +kernel
theorem d_Model_tidy_439 : decode b_Model_tidy 439 = .ok (.invokestatic 334, 3) := by decide +kernel
theorem d_Model_tidy_442 : decode b_Model_tidy 442 = .ok (.aload_n 0, 1) := by decide +kernel
theorem d_Model_tidy_443 : decode b_Model_tidy 443 = .ok (.getfield 160, 3) := by decide +kernel
theorem d_Model_tidy_446 : decode b_Model_tidy 446 = .ok (.iconst 0, 1) := by decide +kernel
theorem d_Model_tidy_447 : decode b_Model_tidy 447 = .ok (.aload_n 0, 1) := by decide +kernel
theorem d_Model_tidy_448 : decode b_Model_tidy 448 = .ok (.getfield 15, 3) := by decide +kernel
theorem d_Model_tidy_451 : decode b_Model_tidy 451 = .ok (.iconst 0, 1) := by decide +kernel
theorem d_Model_tidy_452 : decode b_Model_tidy 452 = .ok (.aload_n 0, 1) := by decide +kernel
theorem d_Model_tidy_453 : decode b_Model_tidy 453 = .ok (.getfield 390, 3) := by decide +kernel
theorem d_Model_tidy_456 : decode b_Model_tidy 456 = .ok (.invokestatic 334, 3) := by decide +kernel
theorem d_Model_tidy_459 : decode b_Model_tidy 459 = .ok (.aload_n 0, 1) := by decide +kernel
theorem d_Model_tidy_460 : decode b_Model_tidy 460 = .ok (.getfield 163, 3) := by decide +kernel
theorem d_Model_tidy_463 : decode b_Model_tidy 463 = .ok (.iconst 0, 1) := by decide +kernel
theorem d_Model_tidy_464 : decode b_Model_tidy 464 = .ok (.aload_n 0, 1) := by decide +kernel
theorem d_Model_tidy_465 : decode b_Model_tidy 465 = .ok (.getfield 22, 3) := by decide +kernel
theorem d_Model_tidy_468 : decode b_Model_tidy 468 = .ok (.iconst 0, 1) := by decide +kernel
theorem d_Model_tidy_469 : decode b_Model_tidy 469 = .ok (.aload_n 0, 1) := by decide +kernel
theorem d_Model_tidy_470 : decode b_Model_tidy 470 = .ok (.getfield 390, 3) := by decide +kernel
theorem d_Model_tidy_473 : decode b_Model_tidy 473 = .ok (.invokestatic 334, 3) := by decide +kernel
theorem d_Model_tidy_476 : decode b_Model_tidy 476 = .ok (.aload_n 0, 1) := by decide +kernel
theorem d_Model_tidy_477 : decode b_Model_tidy 477 = .ok (.getfield 156, 3) := by decide +kernel
theorem d_Model_tidy_480 : decode b_Model_tidy 480 = .ok (.iconst 0, 1) := by decide +kernel
theorem d_Model_tidy_481 : decode b_Model_tidy 481 = .ok (.aload_n 0, 1) := by decide +kernel
theorem d_Model_tidy_482 : decode b_Model_tidy 482 = .ok (.getfield 67, 3) := by decide +kernel
theorem d_Model_tidy_485 : decode b_Model_tidy 485 = .ok (.iconst 0, 1) := by decide +kernel
theorem d_Model_tidy_486 : decode b_Model_tidy 486 = .ok (.aload_n 0, 1) := by decide +kernel
theorem d_Model_tidy_487 : decode b_Model_tidy 487 = .ok (.getfield 387, 3) := by decide +kernel
theorem d_Model_tidy_490 : decode b_Model_tidy 490 = .ok (.invokestatic 334, 3) := by decide +kernel
theorem d_Model_tidy_493 : decode b_Model_tidy 493 = .ok (.aload_n 0, 1) := by decide +kernel
theorem d_Model_tidy_494 : decode b_Model_tidy 494 = .ok (.aload_n 0, 1) := by decide +kernel
theorem d_Model_tidy_495 : decode b_Model_tidy 495 = .ok (.getfield 390, 3) := by decide +kernel
theorem d_Model_tidy_498 : decode b_Model_tidy 498 = .ok (.putfield 19, 3) := by decide +kernel
theorem d_Model_tidy_501 : decode b_Model_tidy 501 = .ok (.aload_n 0, 1) := by decide +kernel
theorem d_Model_tidy_502 : decode b_Model_tidy 502 = .ok (.aload_n 0, 1) := by decide +kernel
theorem d_Model_tidy_503 : decode b_Model_tidy 503 = .ok (.getfield 387, 3) := by decide +kernel
theorem d_Model_tidy_506 : decode b_Model_tidy 506 = .ok (.putfield 372, 3) := by decide +kernel
theorem d_Model_tidy_509 : decode b_Model_tidy 509 = .ok (.aload_n 0, 1) := by decide +kernel
theorem d_Model_tidy_510 : decode b_Model_tidy 510 = .ok (.aload_n 0, 1) := by decide +kernel
theorem d_Model_tidy_511 : decode b_Model_tidy 511 = .ok (.getfield 402, 3) := by decide +kernel
theorem d_Model_tidy_514 : decode b_Model_tidy 514 = .ok (.putfield 32, 3) := by decide +kernel
theorem d_Model_tidy_517 : decode b_Model_tidy 517 = .ok (.aload_n 0, 1) := by decide +kernel
theorem d_Model_tidy_518 : decode b_Model_tidy 518 = .ok (.aload_n 0, 1) := by decide +kernel
theorem d_Model_tidy_519 : decode b_Model_tidy 519 = .ok (.getfield 399, 3) := by decide +kernel
theorem d_Model_tidy_522 : decode b_Model_tidy 522 = .ok (.putfield 44, 3) := by decide +kernel
theorem d_Model_tidy_525 : decode b_Model_tidy 525 = .ok (.iconst 0, 1) := by decide +kernel
theorem d_Model_tidy_526 : decode b_Model_tidy 526 = .ok (.istore 5, 2) := by decide +kernel
theorem d_Model_tidy_528 : decode b_Model_tidy 528 = .ok (.iload 5, 2) := by decide +kernel
theorem d_Model_tidy_530 : decode b_Model_tidy 530 = .ok (.aload_n 0, 1) := by decide +kernel
theorem d_Model_tidy_531 : decode b_Model_tidy 531 = .ok (.getfield 19, 3) := by decide +kernel
theorem d_Model_tidy_534 : decode b_Model_tidy 534 = .ok (.if_icmp .ge 27, 3) := by decide +kernel
theorem d_Model_tidy_537 : decode b_Model_tidy 537 = .ok (.aload_n 0, 1) := by decide +kernel
theorem d_Model_tidy_538 : decode b_Model_tidy 538 = .ok (.getfield 25, 3) := by decide +kernel
theorem d_Model_tidy_541 : decode b_Model_tidy 541 = .ok (.iload 5, 2) := by decide +kernel
theorem d_Model_tidy_543 : decode b_Model_tidy 543 = .ok (.iconst 0, 1) := by decide +kernel
theorem d_Model_tidy_544 : decode b_Model_tidy 544 = .ok (.iastore, 1) := by decide +kernel
theorem d_Model_tidy_545 : decode b_Model_tidy 545 = .ok (.aload_n 0, 1) := by decide +kernel
theorem d_Model_tidy_546 : decode b_Model_tidy 546 = .ok (.getfield 28, 3) := by decide +kernel
theorem d_Model_tidy_549 : decode b_Model_tidy 549 = .ok (.iload 5, 2) := by decide +kernel
theorem d_Model_tidy_551 : decode b_Model_tidy 551 = .ok (.ldc2_w 7, 3) := by decide +kernel
theorem d_Model_tidy_554 : decode b_Model_tidy 554 = .ok (.lastore, 1) := by decide +kernel
theorem d_Model_tidy_555 : decode b_Model_tidy 555 = .ok (.iinc 5 1, 3) := by decide +kernel
theorem d_Model_tidy_558 : decode b_Model_tidy 558 = .ok (.goto (-30), 3) := by decide +kernel
theorem d_Model_tidy_561 : decode b_Model_tidy 561 = .ok (.lload_n 3, 1) := by decide +kernel
theorem d_Model_tidy_562 : decode b_Model_tidy 562 = .ok (.lreturn, 1) := by decide +kernel
theorem lk_Model_390 : Cond.fieldLink "TurtleWorldModel" 390 "TurtleWorldModel" "wordsToo" "I" ∈ tw_T := tw_i8 145 (by decide +kernel) (by decide +kernel)
theorem lk_Model_387 : Cond.fieldLink "TurtleWorldModel" 387 "TurtleWorldModel" "lettersToo" "I" ∈ tw_T := tw_i8 146 (by decide +kernel) (by decide +kernel)
theorem lk_Model_402 : Cond.fieldLink "TurtleWorldModel" 402 "TurtleWorldModel" "cellsToo" "I" ∈ tw_T := tw_i8 147 (by decide +kernel) (by decide +kernel)
theorem lk_Model_405 : Cond.methodLink "TurtleWorldModel" 405 ⟨"TurtleWorldModel", "move", "(J)J"⟩ ∈ tw_T := tw_i10 126 (by decide +kernel) (by decide +kernel)
theorem in_Model_move : Cond.instanceMethod ⟨"TurtleWorldModel", "move", "(J)J"⟩ ∈ tw_T := tw_i10 128 (by decide +kernel) (by decide +kernel)
theorem sel_Model_move : Cond.selects "TurtleWorldModel" ⟨"TurtleWorldModel", "move", "(J)J"⟩ ⟨"TurtleWorldModel", "move", "(J)J"⟩ ∈ tw_T := tw_inS 110 (by decide +kernel) (by decide +kernel)
theorem lk_Model_334 : Cond.methodLink "TurtleWorldModel" 334 ⟨"java/lang/System", "arraycopy", "(Ljava/lang/Object;ILjava/lang/Object;II)V"⟩ ∈ tw_T := tw_i10 33 (by decide +kernel) (by decide +kernel)
