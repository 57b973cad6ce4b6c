theorem d_Model_kindOf_0 : decode b_Model_kindOf 0 = .ok (.lload_n 0, 1) := by decide +kernel
theorem d_Model_kindOf_1 : decode b_Model_kindOf 1 = .ok (.ldc2_w 7, 3) := by decide +kernel
theorem d_Model_kindOf_4 : decode b_Model_kindOf 4 = .ok (.land, 1) := by decide +kernel
theorem d_Model_kindOf_5 : decode b_Model_kindOf 5 = .ok (.l2i, 1) := by decide +kernel
theorem d_Model_kindOf_6 : decode b_Model_kindOf 6 = .ok (.ireturn, 1) := by decide +kernel
theorem lk_Model_7 : Cond.constantLong "TurtleWorldModel" 7 3 ∈ tw_T := tw_i10 29 (by decide +kernel) (by decide +kernel)
theorem d_Model_what_0 : decode b_Model_what 0 = .ok (.lload_n 0, 1) := by decide +kernel
theorem d_Model_what_1 : decode b_Model_what 1 = .ok (.iconst 2, 1) := by decide +kernel
theorem d_Model_what_2 : decode b_Model_what 2 = .ok (.lshr, 1) := by decide +kernel
theorem d_Model_what_3 : decode b_Model_what 3 = .ok (.l2i, 1) := by decide +kernel
theorem d_Model_what_4 : decode b_Model_what 4 = .ok (.ireturn, 1) := by decide +kernel
theorem d_Model_number_0 : decode b_Model_number 0 = .ok (.iload_n 0, 1) := by decide +kernel
theorem d_Model_number_1 : decode b_Model_number 1 = .ok (.i2l, 1) := by decide +kernel
theorem d_Model_number_2 : decode b_Model_number 2 = .ok (.iconst 2, 1) := by decide +kernel
theorem d_Model_number_3 : decode b_Model_number 3 = .ok (.lshl, 1) := by decide +kernel
theorem d_Model_number_4 : decode b_Model_number 4 = .ok (.lreturn, 1) := by decide +kernel
theorem d_Model_wordValue_0 : decode b_Model_wordValue 0 = .ok (.iload_n 0, 1) := by decide +kernel
theorem d_Model_wordValue_1 : decode b_Model_wordValue 1 = .ok (.i2l, 1) := by decide +kernel
theorem d_Model_wordValue_2 : decode b_Model_wordValue 2 = .ok (.iconst 2, 1) := by decide +kernel
theorem d_Model_wordValue_3 : decode b_Model_wordValue 3 = .ok (.lshl, 1) := by decide +kernel
theorem d_Model_wordValue_4 : decode b_Model_wordValue 4 = .ok (.lconst 1, 1) := by decide +kernel
theorem d_Model_wordValue_5 : decode b_Model_wordValue 5 = .ok (.lor, 1) := by decide +kernel
theorem d_Model_wordValue_6 : decode b_Model_wordValue 6 = .ok (.lreturn, 1) := by decide +kernel
theorem d_Model_listValue_0 : decode b_Model_listValue 0 = .ok (.iload_n 0, 1) := by decide +kernel
theorem d_Model_listValue_1 : decode b_Model_listValue 1 = .ok (.i2l, 1) := by decide +kernel
theorem d_Model_listValue_2 : decode b_Model_listValue 2 = .ok (.iconst 2, 1) := by decide +kernel
theorem d_Model_listValue_3 : decode b_Model_listValue 3 = .ok (.lshl, 1) := by decide +kernel
theorem d_Model_listValue_4 : decode b_Model_listValue 4 = .ok (.ldc2_w 9, 3) := by decide +kernel
theorem d_Model_listValue_7 : decode b_Model_listValue 7 = .ok (.lor, 1) := by decide +kernel
theorem d_Model_listValue_8 : decode b_Model_listValue 8 = .ok (.lreturn, 1) := by decide +kernel
theorem lk_Model_9 : Cond.constantLong "TurtleWorldModel" 9 2 ∈ tw_T := tw_i10 117 (by decide +kernel) (by decide +kernel)
theorem d_Model_isNumber_0 : decode b_Model_isNumber 0 = .ok (.lload_n 0, 1) := by decide +kernel
theorem d_Model_isNumber_1 : decode b_Model_isNumber 1 = .ok (.invokestatic 11, 3) := by decide +kernel
theorem d_Model_isNumber_4 : decode b_Model_isNumber 4 = .ok (.ifCond .ne 7, 3) := by decide +kernel
theorem d_Model_isNumber_7 : decode b_Model_isNumber 7 = .ok (.iconst 1, 1) := by decide +kernel
theorem d_Model_isNumber_8 : decode b_Model_isNumber 8 = .ok (.goto 4, 3) := by decide +kernel
theorem d_Model_isNumber_11 : decode b_Model_isNumber 11 = .ok (.iconst 0, 1) := by decide +kernel
theorem d_Model_isNumber_12 : decode b_Model_isNumber 12 = .ok (.ireturn, 1) := by decide +kernel
theorem lk_Model_11 : Cond.methodLink "TurtleWorldModel" 11 ⟨"TurtleWorldModel", "kindOf", "(J)I"⟩ ∈ tw_T := tw_i10 48 (by decide +kernel) (by decide +kernel)
theorem st_Model_kindOf : Cond.static ⟨"TurtleWorldModel", "kindOf", "(J)I"⟩ ∈ tw_T := tw_i10 49 (by decide +kernel) (by decide +kernel)
theorem ini_Model : Cond.initialized "TurtleWorldModel" ∈ tw_T := tw_i1 20 (by decide +kernel) (by decide +kernel)
theorem d_Model_isWord_0 : decode b_Model_isWord 0 = .ok (.lload_n 0, 1) := by decide +kernel
theorem d_Model_isWord_1 : decode b_Model_isWord 1 = .ok (.invokestatic 11, 3) := by decide +kernel
theorem d_Model_isWord_4 : decode b_Model_isWord 4 = .ok (.iconst 1, 1) := by decide +kernel
theorem d_Model_isWord_5 : decode b_Model_isWord 5 = .ok (.if_icmp .ne 7, 3) := by decide +kernel
theorem d_Model_isWord_8 : decode b_Model_isWord 8 = .ok (.iconst 1, 1) := by decide +kernel
theorem d_Model_isWord_9 : decode b_Model_isWord 9 = .ok (.goto 4, 3) := by decide +kernel
theorem d_Model_isWord_12 : decode b_Model_isWord 12 = .ok (.iconst 0, 1) := by decide +kernel
theorem d_Model_isWord_13 : decode b_Model_isWord 13 = .ok (.ireturn, 1) := by decide +kernel
theorem d_Model_isList_0 : decode b_Model_isList 0 = .ok (.lload_n 0, 1) := by decide +kernel
theorem d_Model_isList_1 : decode b_Model_isList 1 = .ok (.invokestatic 11, 3) := by decide +kernel
theorem d_Model_isList_4 : decode b_Model_isList 4 = .ok (.iconst 2, 1) := by decide +kernel
theorem d_Model_isList_5 : decode b_Model_isList 5 = .ok (.if_icmp .ne 7, 3) := by decide +kernel
theorem d_Model_isList_8 : decode b_Model_isList 8 = .ok (.iconst 1, 1) := by decide +kernel
theorem d_Model_isList_9 : decode b_Model_isList 9 = .ok (.goto 4, 3) := by decide +kernel
theorem d_Model_isList_12 : decode b_Model_isList 12 = .ok (.iconst 0, 1) := by decide +kernel
theorem d_Model_isList_13 : decode b_Model_isList 13 = .ok (.ireturn, 1) := by decide +kernel
theorem d_Model_isSign_0 : decode b_Model_isSign 0 = .ok (.iload_n 0, 1) := by decide +kernel
theorem d_Model_isSign_1 : decode b_Model_isSign 1 = .ok (.bipush 43, 2) := by decide +kernel
theorem d_Model_isSign_3 : decode b_Model_isSign 3 = .ok (.if_icmp .eq 39, 3) := by decide +kernel
theorem d_Model_isSign_6 : decode b_Model_isSign 6 = .ok (.iload_n 0, 1) := by decide +kernel
theorem d_Model_isSign_7 : decode b_Model_isSign 7 = .ok (.bipush 45, 2) := by decide +kernel
theorem d_Model_isSign_9 : decode b_Model_isSign 9 = .ok (.if_icmp .eq 33, 3) := by decide +kernel
theorem d_Model_isSign_12 : decode b_Model_isSign 12 = .ok (.iload_n 0, 1) := by decide +kernel
theorem d_Model_isSign_13 : decode b_Model_isSign 13 = .ok (.bipush 42, 2) := by decide +kernel
theorem d_Model_isSign_15 : decode b_Model_isSign 15 = .ok (.if_icmp .eq 27, 3) := by decide +kernel
theorem d_Model_isSign_18 : decode b_Model_isSign 18 = .ok (.iload_n 0, 1) := by decide +kernel
theorem d_Model_isSign_19 : decode b_Model_isSign 19 = .ok (.bipush 47, 2) := by decide +kernel
theorem d_Model_isSign_21 : decode b_Model_isSign 21 = .ok (.if_icmp .eq 21, 3) := by decide +kernel
theorem d_Model_isSign_24 : decode b_Model_isSign 24 = .ok (.iload_n 0, 1) := by decide +kernel
theorem d_Model_isSign_25 : decode b_Model_isSign 25 = .ok (.bipush 61, 2) := by decide +kernel
theorem d_Model_isSign_27 : decode b_Model_isSign 27 = .ok (.if_icmp .eq 15, 3) := by decide +kernel
theorem d_Model_isSign_30 : decode b_Model_isSign 30 = .ok (.iload_n 0, 1) := by decide +kernel
theorem d_Model_isSign_31 : decode b_Model_isSign 31 = .ok (.bipush 60, 2) := by decide +kernel
theorem d_Model_isSign_33 : decode b_Model_isSign 33 = .ok (.if_icmp .eq 9, 3) := by decide +kernel
theorem d_Model_isSign_36 : decode b_Model_isSign 36 = .ok (.iload_n 0, 1) := by decide +kernel
theorem d_Model_isSign_37 : decode b_Model_isSign 37 = .ok (.bipush 62, 2) := by decide +kernel
theorem d_Model_isSign_39 : decode b_Model_isSign 39 = .ok (.if_icmp .ne 7, 3) := by decide +kernel
theorem d_Model_isSign_42 : decode b_Model_isSign 42 = .ok (.iconst 1, 1) := by decide +kernel
theorem d_Model_isSign_43 : decode b_Model_isSign 43 = .ok (.goto 4, 3) := by decide +kernel
theorem d_Model_isSign_46 : decode b_Model_isSign 46 = .ok (.iconst 0, 1) := by decide +kernel
theorem d_Model_isSign_47 : decode b_Model_isSign 47 = .ok (.ireturn, 1) := by decide +kernel
theorem d_Model_isDigit_0 : decode b_Model_isDigit 0 = .ok (.iload_n 0, 1) := by decide +kernel
theorem d_Model_isDigit_1 : decode b_Model_isDigit 1 = .ok (.bipush 48, 2) := by decide +kernel
theorem d_Model_isDigit_3 : decode b_Model_isDigit 3 = .ok (.if_icmp .lt 13, 3) := by decide +kernel
theorem d_Model_isDigit_6 : decode b_Model_isDigit 6 = .ok (.iload_n 0, 1) := by decide +kernel
theorem d_Model_isDigit_7 : decode b_Model_isDigit 7 = .ok (.bipush 57, 2) := by decide +kernel
theorem d_Model_isDigit_9 : decode b_Model_isDigit 9 = .ok (.if_icmp .gt 7, 3) := by decide +kernel
theorem d_Model_isDigit_12 : decode b_Model_isDigit 12 = .ok (.iconst 1, 1) := by decide +kernel
theorem d_Model_isDigit_13 : decode b_Model_isDigit 13 = .ok (.goto 4, 3) := by decide +kernel
theorem d_Model_isDigit_16 : decode b_Model_isDigit 16 = .ok (.iconst 0, 1) := by decide +kernel
theorem d_Model_isDigit_17 : decode b_Model_isDigit 17 = .ok (.ireturn, 1) := by decide +kernel
theorem d_Model_isGood_0 : decode b_Model_isGood 0 = .ok (.iload_n 0, 1) := by decide +kernel
theorem d_Model_isGood_1 : decode b_Model_isGood 1 = .ok (.bipush 10, 2) := by decide +kernel
theorem d_Model_isGood_3 : decode b_Model_isGood 3 = .ok (.if_icmp .eq 15, 3) := by decide +kernel
theorem d_Model_isGood_6 : decode b_Model_isGood 6 = .ok (.iload_n 0, 1) := by decide +kernel
theorem d_Model_isGood_7 : decode b_Model_isGood 7 = .ok (.bipush 32, 2) := by decide +kernel
theorem d_Model_isGood_9 : decode b_Model_isGood 9 = .ok (.if_icmp .lt 13, 3) := by decide +kernel
theorem d_Model_isGood_12 : decode b_Model_isGood 12 = .ok (.iload_n 0, 1) := by decide +kernel
theorem d_Model_isGood_13 : decode b_Model_isGood 13 = .ok (.bipush 126, 2) := by decide +kernel
theorem d_Model_isGood_15 : decode b_Model_isGood 15 = .ok (.if_icmp .gt 7, 3) := by decide +kernel
theorem d_Model_isGood_18 : decode b_Model_isGood 18 = .ok (.iconst 1, 1) := by decide +kernel
theorem d_Model_isGood_19 : decode b_Model_isGood 19 = .ok (.goto 4, 3) := by decide +kernel
theorem d_Model_isGood_22 : decode b_Model_isGood 22 = .ok (.iconst 0, 1) := by decide +kernel
theorem d_Model_isGood_23 : decode b_Model_isGood 23 = .ok (.ireturn, 1) := by decide +kernel
theorem d_Model_isBlank_0 : decode b_Model_isBlank 0 = .ok (.iload_n 0, 1) := by decide +kernel
theorem d_Model_isBlank_1 : decode b_Model_isBlank 1 = .ok (.bipush 10, 2) := by decide +kernel
theorem d_Model_isBlank_3 : decode b_Model_isBlank 3 = .ok (.if_icmp .eq 15, 3) := by decide +kernel
theorem d_Model_isBlank_6 : decode b_Model_isBlank 6 = .ok (.iload_n 0, 1) := by decide +kernel
theorem d_Model_isBlank_7 : decode b_Model_isBlank 7 = .ok (.bipush 32, 2) := by decide +kernel
theorem d_Model_isBlank_9 : decode b_Model_isBlank 9 = .ok (.if_icmp .eq 9, 3) := by decide +kernel
theorem d_Model_isBlank_12 : decode b_Model_isBlank 12 = .ok (.iload_n 0, 1) := by decide +kernel
theorem d_Model_isBlank_13 : decode b_Model_isBlank 13 = .ok (.bipush 59, 2) := by decide +kernel
theorem d_Model_isBlank_15 : decode b_Model_isBlank 15 = .ok (.if_icmp .ne 7, 3) := by decide +kernel
theorem d_Model_isBlank_18 : decode b_Model_isBlank 18 = .ok (.iconst 1, 1) := by decide +kernel
theorem d_Model_isBlank_19 : decode b_Model_isBlank 19 = .ok (.goto 4, 3) := by decide +kernel
theorem d_Model_isBlank_22 : decode b_Model_isBlank 22 = .ok (.iconst 0, 1) := by decide +kernel
theorem d_Model_isBlank_23 : decode b_Model_isBlank 23 = .ok (.ireturn, 1) := by decide +kernel
theorem d_Model_isSingle_0 : decode b_Model_isSingle 0 = .ok (.iload_n 0, 1) := by decide +kernel
theorem d_Model_isSingle_1 : decode b_Model_isSingle 1 = .ok (.invokestatic 412, 3) := by decide +kernel
theorem d_Model_isSingle_4 : decode b_Model_isSingle 4 = .ok (.ifCond .ne 15, 3) := by decide +kernel
theorem d_Model_isSingle_7 : decode b_Model_isSingle 7 = .ok (.iload_n 0, 1) := by decide +kernel
theorem d_Model_isSingle_8 : decode b_Model_isSingle 8 = .ok (.bipush 40, 2) := by decide +kernel
theorem d_Model_isSingle_10 : decode b_Model_isSingle 10 = .ok (.if_icmp .eq 9, 3) := by decide +kernel
theorem d_Model_isSingle_13 : decode b_Model_isSingle 13 = .ok (.iload_n 0, 1) := by decide +kernel
theorem d_Model_isSingle_14 : decode b_Model_isSingle 14 = .ok (.bipush 41, 2) := by decide +kernel
theorem d_Model_isSingle_16 : decode b_Model_isSingle 16 = .ok (.if_icmp .ne 7, 3) := by decide +kernel
theorem d_Model_isSingle_19 : decode b_Model_isSingle 19 = .ok (.iconst 1, 1) := by decide +kernel
theorem d_Model_isSingle_20 : decode b_Model_isSingle 20 = .ok (.goto 4, 3) := by decide +kernel
theorem d_Model_isSingle_23 : decode b_Model_isSingle 23 = .ok (.iconst 0, 1) := by decide +kernel
theorem d_Model_isSingle_24 : decode b_Model_isSingle 24 = .ok (.ireturn, 1) := by decide +kernel
theorem lk_Model_412 : Cond.methodLink "TurtleWorldModel" 412 ⟨"TurtleWorldModel", "isSign", "(I)Z"⟩ ∈ tw_T := tw_i10 7 (by decide +kernel) (by decide +kernel)
theorem st_Model_isSign : Cond.static ⟨"TurtleWorldModel", "isSign", "(I)Z"⟩ ∈ tw_T := tw_i10 8 (by decide +kernel) (by decide +kernel)
theorem d_Model_isBeyond_0 : decode b_Model_isBeyond 0 = .ok (.iload_n 0, 1) := by decide +kernel
theorem d_Model_isBeyond_1 : decode b_Model_isBeyond 1 = .ok (.ldc_w 833, 3) := by decide +kernel
theorem d_Model_isBeyond_4 : decode b_Model_isBeyond 4 = .ok (.if_icmp .gt 10, 3) := by decide +kernel
theorem d_Model_isBeyond_7 : decode b_Model_isBeyond 7 = .ok (.iload_n 0, 1) := by decide +kernel
theorem d_Model_isBeyond_8 : decode b_Model_isBeyond 8 = .ok (.ldc_w 834, 3) := by decide +kernel
theorem d_Model_isBeyond_11 : decode b_Model_isBeyond 11 = .ok (.if_icmp .ge 7, 3) := by decide +kernel
theorem d_Model_isBeyond_14 : decode b_Model_isBeyond 14 = .ok (.iconst 1, 1) := by decide +kernel
theorem d_Model_isBeyond_15 : decode b_Model_isBeyond 15 = .ok (.goto 4, 3) := by decide +kernel
theorem d_Model_isBeyond_18 : decode b_Model_isBeyond 18 = .ok (.iconst 0, 1) := by decide +kernel
theorem d_Model_isBeyond_19 : decode b_Model_isBeyond 19 = .ok (.ireturn, 1) := by decide +kernel
theorem lk_Model_833 : Cond.constant "TurtleWorldModel" 833 1000000 ∈ tw_T := tw_i11 19 (by decide +kernel) (by decide +kernel)
theorem lk_Model_834 : Cond.constant "TurtleWorldModel" 834 (-1000000) ∈ tw_T := tw_i11 20 (by decide +kernel) (by decide +kernel)
theorem d_Model_sign_0 : decode b_Model_sign 0 = .ok (.lload_n 0, 1) := by decide +kernel
theorem d_Model_sign_1 : decode b_Model_sign 1 = .ok (.ldc2_w 801, 3) := by decide +kernel
theorem d_Model_sign_4 : decode b_Model_sign 4 = .ok (.lcmp, 1) := by decide +kernel
theorem d_Model_sign_5 : decode b_Model_sign 5 = .ok (.ifCond .gt 11, 3) := by decide +kernel
theorem d_Model_sign_8 : decode b_Model_sign 8 = .ok (.lload_n 0, 1) := by decide +kernel
theorem d_Model_sign_9 : decode b_Model_sign 9 = .ok (.ldc2_w 803, 3) := by decide +kernel
theorem d_Model_sign_12 : decode b_Model_sign 12 = .ok (.lcmp, 1) := by decide +kernel
theorem d_Model_sign_13 : decode b_Model_sign 13 = .ok (.ifCond .ge 15, 3) := by decide +kernel
theorem d_Model_sign_16 : decode b_Model_sign 16 = .ok (.lload_n 0, 1) := by decide +kernel
theorem d_Model_sign_17 : decode b_Model_sign 17 = .ok (.lconst 0, 1) := by decide +kernel
theorem d_Model_sign_18 : decode b_Model_sign 18 = .ok (.lcmp, 1) := by decide +kernel
theorem d_Model_sign_19 : decode b_Model_sign 19 = .ok (.ifCond .le 7, 3) := by decide +kernel
theorem d_Model_sign_22 : decode b_Model_sign 22 = .ok (.iconst 1, 1) := by decide +kernel
theorem d_Model_sign_23 : decode b_Model_sign 23 = .ok (.goto 4, 3) := by decide +kernel
theorem d_Model_sign_26 : decode b_Model_sign 26 = .ok (.iconst (-1), 1) := by decide +kernel
theorem d_Model_sign_27 : decode b_Model_sign 27 = .ok (.ireturn, 1) := by decide +kernel
theorem d_Model_sign_28 : decode b_Model_sign 28 = .ok (.lload_n 0, 1) := by decide +kernel
theorem d_Model_sign_29 : decode b_Model_sign 29 = .ok (.lload_n 0, 1) := by decide +kernel
theorem d_Model_sign_30 : decode b_Model_sign 30 = .ok (.lmul, 1) := by decide +kernel
theorem d_Model_sign_31 : decode b_Model_sign 31 = .ok (.lload_n 0, 1) := by decide +kernel
theorem d_Model_sign_32 : decode b_Model_sign 32 = .ok (.lconst 0, 1) := by decide +kernel
theorem d_Model_sign_33 : decode b_Model_sign 33 = .ok (.lcmp, 1) := by decide +kernel
theorem d_Model_sign_34 : decode b_Model_sign 34 = .ok (.ifCond .ge 9, 3) := by decide +kernel
theorem d_Model_sign_37 : decode b_Model_sign 37 = .ok (.ldc2_w 805, 3) := by decide +kernel
theorem d_Model_sign_40 : decode b_Model_sign 40 = .ok (.goto 4, 3) := by decide +kernel
theorem d_Model_sign_43 : decode b_Model_sign 43 = .ok (.lconst 1, 1) := by decide +kernel
theorem d_Model_sign_44 : decode b_Model_sign 44 = .ok (.lmul, 1) := by decide +kernel
theorem d_Model_sign_45 : decode b_Model_sign 45 = .ok (.lstore 4, 2) := by decide +kernel
theorem d_Model_sign_47 : decode b_Model_sign 47 = .ok (.ldc2_w 7, 3) := by decide +kernel
theorem d_Model_sign_50 : decode b_Model_sign 50 = .ok (.lload_n 2, 1) := by decide +kernel
theorem d_Model_sign_51 : decode b_Model_sign 51 = .ok (.lmul, 1) := by decide +kernel
theorem d_Model_sign_52 : decode b_Model_sign 52 = .ok (.lload_n 2, 1) := by decide +kernel
theorem d_Model_sign_53 : decode b_Model_sign 53 = .ok (.lmul, 1) := by decide +kernel
theorem d_Model_sign_54 : decode b_Model_sign 54 = .ok (.lload_n 2, 1) := by decide +kernel
theorem d_Model_sign_55 : decode b_Model_sign 55 = .ok (.lconst 0, 1) := by decide +kernel
theorem d_Model_sign_56 : decode b_Model_sign 56 = .ok (.lcmp, 1) := by decide +kernel
theorem d_Model_sign_57 : decode b_Model_sign 57 = .ok (.ifCond .ge 9, 3) := by decide +kernel
theorem d_Model_sign_60 : decode b_Model_sign 60 = .ok (.ldc2_w 805, 3) := by decide +kernel
theorem d_Model_sign_63 : decode b_Model_sign 63 = .ok (.goto 4, 3) := by decide +kernel
theorem d_Model_sign_66 : decode b_Model_sign 66 = .ok (.lconst 1, 1) := by decide +kernel
theorem d_Model_sign_67 : decode b_Model_sign 67 = .ok (.lmul, 1) := by decide +kernel
theorem d_Model_sign_68 : decode b_Model_sign 68 = .ok (.lstore 6, 2) := by decide +kernel
theorem d_Model_sign_70 : decode b_Model_sign 70 = .ok (.lload 4, 2) := by decide +kernel
theorem d_Model_sign_72 : decode b_Model_sign 72 = .ok (.lload 6, 2) := by decide +kernel
theorem d_Model_sign_74 : decode b_Model_sign 74 = .ok (.ladd, 1) := by decide +kernel
theorem d_Model_sign_75 : decode b_Model_sign 75 = .ok (.lconst 0, 1) := by decide +kernel
theorem d_Model_sign_76 : decode b_Model_sign 76 = .ok (.invokestatic 807, 3) := by decide +kernel
theorem d_Model_sign_79 : decode b_Model_sign 79 = .ok (.ireturn, 1) := by decide +kernel
theorem lk_Model_801 : Cond.constantLong "TurtleWorldModel" 801 20000000 ∈ tw_T := tw_i11 28 (by decide +kernel) (by decide +kernel)
theorem lk_Model_803 : Cond.constantLong "TurtleWorldModel" 803 (-20000000) ∈ tw_T := tw_i11 29 (by decide +kernel) (by decide +kernel)
theorem lk_Model_807 : Cond.methodLink "TurtleWorldModel" 807 ⟨"java/lang/Long", "compare", "(JJ)I"⟩ ∈ tw_T := tw_i11 31 (by decide +kernel) (by decide +kernel)
theorem lk_Model_805 : Cond.constantLong "TurtleWorldModel" 805 (-1) ∈ tw_T := tw_i11 30 (by decide +kernel) (by decide +kernel)
theorem d_Reader_isSign_0 : decode b_Reader_isSign 0 = .ok (.iload_n 0, 1) := by decide +kernel
theorem d_Reader_isSign_1 : decode b_Reader_isSign 1 = .ok (.bipush 43, 2) := by decide +kernel
theorem d_Reader_isSign_3 : decode b_Reader_isSign 3 = .ok (.if_icmp .eq 39, 3) := by decide +kernel
theorem d_Reader_isSign_6 : decode b_Reader_isSign 6 = .ok (.iload_n 0, 1) := by decide +kernel
theorem d_Reader_isSign_7 : decode b_Reader_isSign 7 = .ok (.bipush 45, 2) := by decide +kernel
theorem d_Reader_isSign_9 : decode b_Reader_isSign 9 = .ok (.if_icmp .eq 33, 3) := by decide +kernel
theorem d_Reader_isSign_12 : decode b_Reader_isSign 12 = .ok (.iload_n 0, 1) := by decide +kernel
theorem d_Reader_isSign_13 : decode b_Reader_isSign 13 = .ok (.bipush 42, 2) := by decide +kernel
theorem d_Reader_isSign_15 : decode b_Reader_isSign 15 = .ok (.if_icmp .eq 27, 3) := by decide +kernel
theorem d_Reader_isSign_18 : decode b_Reader_isSign 18 = .ok (.iload_n 0, 1) := by decide +kernel
theorem d_Reader_isSign_19 : decode b_Reader_isSign 19 = .ok (.bipush 47, 2) := by decide +kernel
theorem d_Reader_isSign_21 : decode b_Reader_isSign 21 = .ok (.if_icmp .eq 21, 3) := by decide +kernel
theorem d_Reader_isSign_24 : decode b_Reader_isSign 24 = .ok (.iload_n 0, 1) := by decide +kernel
theorem d_Reader_isSign_25 : decode b_Reader_isSign 25 = .ok (.bipush 61, 2) := by decide +kernel
theorem d_Reader_isSign_27 : decode b_Reader_isSign 27 = .ok (.if_icmp .eq 15, 3) := by decide +kernel
theorem d_Reader_isSign_30 : decode b_Reader_isSign 30 = .ok (.iload_n 0, 1) := by decide +kernel
theorem d_Reader_isSign_31 : decode b_Reader_isSign 31 = .ok (.bipush 60, 2) := by decide +kernel
theorem d_Reader_isSign_33 : decode b_Reader_isSign 33 = .ok (.if_icmp .eq 9, 3) := by decide +kernel
theorem d_Reader_isSign_36 : decode b_Reader_isSign 36 = .ok (.iload_n 0, 1) := by decide +kernel
theorem d_Reader_isSign_37 : decode b_Reader_isSign 37 = .ok (.bipush 62, 2) := by decide +kernel
theorem d_Reader_isSign_39 : decode b_Reader_isSign 39 = .ok (.if_icmp .ne 7, 3) := by decide +kernel
theorem d_Reader_isSign_42 : decode b_Reader_isSign 42 = .ok (.iconst 1, 1) := by decide +kernel
theorem d_Reader_isSign_43 : decode b_Reader_isSign 43 = .ok (.goto 4, 3) := by decide +kernel
theorem d_Reader_isSign_46 : decode b_Reader_isSign 46 = .ok (.iconst 0, 1) := by decide +kernel
theorem d_Reader_isSign_47 : decode b_Reader_isSign 47 = .ok (.ireturn, 1) := by decide +kernel
theorem d_Reader_isDigit_0 : decode b_Reader_isDigit 0 = .ok (.iload_n 0, 1) := by decide +kernel
theorem d_Reader_isDigit_1 : decode b_Reader_isDigit 1 = .ok (.bipush 48, 2) := by decide +kernel
theorem d_Reader_isDigit_3 : decode b_Reader_isDigit 3 = .ok (.if_icmp .lt 13, 3) := by decide +kernel
theorem d_Reader_isDigit_6 : decode b_Reader_isDigit 6 = .ok (.iload_n 0, 1) := by decide +kernel
theorem d_Reader_isDigit_7 : decode b_Reader_isDigit 7 = .ok (.bipush 57, 2) := by decide +kernel
theorem d_Reader_isDigit_9 : decode b_Reader_isDigit 9 = .ok (.if_icmp .gt 7, 3) := by decide +kernel
theorem d_Reader_isDigit_12 : decode b_Reader_isDigit 12 = .ok (.iconst 1, 1) := by decide +kernel
theorem d_Reader_isDigit_13 : decode b_Reader_isDigit 13 = .ok (.goto 4, 3) := by decide +kernel
theorem d_Reader_isDigit_16 : decode b_Reader_isDigit 16 = .ok (.iconst 0, 1) := by decide +kernel
theorem d_Reader_isDigit_17 : decode b_Reader_isDigit 17 = .ok (.ireturn, 1) := by decide +kernel
theorem d_Reader_isAlone_0 : decode b_Reader_isAlone 0 = .ok (.iload_n 0, 1) := by decide +kernel
theorem d_Reader_isAlone_1 : decode b_Reader_isAlone 1 = .ok (.bipush 91, 2) := by decide +kernel
theorem d_Reader_isAlone_3 : decode b_Reader_isAlone 3 = .ok (.if_icmp .eq 34, 3) := by decide +kernel
theorem d_Reader_isAlone_6 : decode b_Reader_isAlone 6 = .ok (.iload_n 0, 1) := by decide +kernel
theorem d_Reader_isAlone_7 : decode b_Reader_isAlone 7 = .ok (.bipush 93, 2) := by decide +kernel
theorem d_Reader_isAlone_9 : decode b_Reader_isAlone 9 = .ok (.if_icmp .eq 28, 3) := by decide +kernel
theorem d_Reader_isAlone_12 : decode b_Reader_isAlone 12 = .ok (.iload_n 0, 1) := by decide +kernel
theorem d_Reader_isAlone_13 : decode b_Reader_isAlone 13 = .ok (.bipush 40, 2) := by decide +kernel
theorem d_Reader_isAlone_15 : decode b_Reader_isAlone 15 = .ok (.if_icmp .eq 22, 3) := by decide +kernel
theorem d_Reader_isAlone_18 : decode b_Reader_isAlone 18 = .ok (.iload_n 0, 1) := by decide +kernel
theorem d_Reader_isAlone_19 : decode b_Reader_isAlone 19 = .ok (.bipush 41, 2) := by decide +kernel
theorem d_Reader_isAlone_21 : decode b_Reader_isAlone 21 = .ok (.if_icmp .eq 16, 3) := by decide +kernel
theorem d_Reader_isAlone_24 : decode b_Reader_isAlone 24 = .ok (.iload_n 0, 1) := by decide +kernel
theorem d_Reader_isAlone_25 : decode b_Reader_isAlone 25 = .ok (.invokestatic 93, 3) := by decide +kernel
theorem d_Reader_isAlone_28 : decode b_Reader_isAlone 28 = .ok (.ifCond .eq 13, 3) := by decide +kernel
theorem d_Reader_isAlone_31 : decode b_Reader_isAlone 31 = .ok (.iload_n 0, 1) := by decide +kernel
theorem d_Reader_isAlone_32 : decode b_Reader_isAlone 32 = .ok (.bipush 45, 2) := by decide +kernel
theorem d_Reader_isAlone_34 : decode b_Reader_isAlone 34 = .ok (.if_icmp .eq 7, 3) := by decide +kernel
theorem d_Reader_isAlone_37 : decode b_Reader_isAlone 37 = .ok (.iconst 1, 1) := by decide +kernel
theorem d_Reader_isAlone_38 : decode b_Reader_isAlone 38 = .ok (.goto 4, 3) := by decide +kernel
theorem d_Reader_isAlone_41 : decode b_Reader_isAlone 41 = .ok (.iconst 0, 1) := by decide +kernel
theorem d_Reader_isAlone_42 : decode b_Reader_isAlone 42 = .ok (.ireturn, 1) := by decide +kernel
theorem lk_Reader_93 : Cond.methodLink "TurtleWorld$Reader" 93 ⟨"TurtleWorld$Reader", "isSign", "(I)Z"⟩ ∈ tw_T := tw_i4 37 (by decide +kernel) (by decide +kernel)
theorem st_Reader_isSign : Cond.static ⟨"TurtleWorld$Reader", "isSign", "(I)Z"⟩ ∈ tw_T := tw_i4 38 (by decide +kernel) (by decide +kernel)
theorem d_Deeds_inBounds_0 : decode b_Deeds_inBounds 0 = .ok (.lload_n 0, 1) := by decide +kernel
theorem d_Deeds_inBounds_1 : decode b_Deeds_inBounds 1 = .ok (.ldc2_w 164, 3) := by decide +kernel
theorem d_Deeds_inBounds_4 : decode b_Deeds_inBounds 4 = .ok (.lcmp, 1) := by decide +kernel
theorem d_Deeds_inBounds_5 : decode b_Deeds_inBounds 5 = .ok (.ifCond .lt 11, 3) := by decide +kernel
theorem d_Deeds_inBounds_8 : decode b_Deeds_inBounds 8 = .ok (.lload_n 0, 1) := by decide +kernel
theorem d_Deeds_inBounds_9 : decode b_Deeds_inBounds 9 = .ok (.ldc2_w 166, 3) := by decide +kernel
theorem d_Deeds_inBounds_12 : decode b_Deeds_inBounds 12 = .ok (.lcmp, 1) := by decide +kernel
theorem d_Deeds_inBounds_13 : decode b_Deeds_inBounds 13 = .ok (.ifCond .le 8, 3) := by decide +kernel
theorem d_Deeds_inBounds_16 : decode b_Deeds_inBounds 16 = .ok (.ldc 168, 2) := by decide +kernel
theorem d_Deeds_inBounds_18 : decode b_Deeds_inBounds 18 = .ok (.goto 8, 3) := by decide +kernel
theorem d_Deeds_inBounds_21 : decode b_Deeds_inBounds 21 = .ok (.lload_n 0, 1) := by decide +kernel
theorem d_Deeds_inBounds_22 : decode b_Deeds_inBounds 22 = .ok (.l2i, 1) := by decide +kernel
theorem d_Deeds_inBounds_23 : decode b_Deeds_inBounds 23 = .ok (.invokestatic 127, 3) := by decide +kernel
theorem d_Deeds_inBounds_26 : decode b_Deeds_inBounds 26 = .ok (.ireturn, 1) := by decide +kernel
theorem lk_Deeds_164 : Cond.constantLong "TurtleWorld$Deeds" 164 (-1000000000) ∈ tw_T := tw_i6 153 (by decide +kernel) (by decide +kernel)
theorem lk_Deeds_168 : Cond.constant "TurtleWorld$Deeds" 168 (-2147483639) ∈ tw_T := tw_i6 155 (by decide +kernel) (by decide +kernel)
theorem lk_Deeds_166 : Cond.constantLong "TurtleWorld$Deeds" 166 1000000000 ∈ tw_T := tw_i6 154 (by decide +kernel) (by decide +kernel)
theorem lk_Deeds_127 : Cond.methodLink "TurtleWorld$Deeds" 127 ⟨"TurtleWorld$Heap", "number", "(I)I"⟩ ∈ tw_T := tw_i6 115 (by decide +kernel) (by decide +kernel)
def m_Model_kindOf_r (v : Int64) : Int32 := (v &&& 3).toInt32
set_option maxHeartbeats 4000000 in
set_option maxRecDepth 100000 in
theorem c_Model_kindOf (l : Launch) (dC : Nat → ClassId) (dI : Nat → Nat → Nat) (sz : Nat) (v : Int64)  : Met l y_Model_kindOf w_Model_kindOf ({ frames := 0, cells := 0, slots := 0, locals := 0 }) (va_Pc [.long v] (fun U => U.heap.size = sz ∧ va_P (dC, dI) classes ([] : va_W) U.heap ∧ va_K (dC, dI) classes [] U ∧ va_D (fun _ => True) ([] : va_W))) (va_Qi (fun (r : Int32) (_ : Unit) => r = m_Model_kindOf_r v) (fun (_ : Unit) t => va_P (dC, dI) classes ([] : va_W) t.heap ∧ va_K (dC, dI) classes [] t ∧ va_D (va_A ([] : va_W) sz) ([] : va_W)) (va_A ([] : va_W) sz)) 0 0 (va_A ([] : va_W) sz) := by
  refine Met.ofW (cc := b_Model_kindOf) (maxL := 2) (ret := (some .int)) (by decide) rfl ?_
  intro p e s m args below meth c s₁ B hml hv
  obtain ⟨rfl, hsz, hP, hK, hD0⟩ := hv
  have hx := B.exec
  have hb := B.bytes
  have hr := B.returns
  have hts := atoms_spec (ws := w_Model_kindOf) B.pre
  have htt : ∀ w ∈ tw_T, w.before _ s = true := fun w h => hts w (List.mem_cons_of_mem _ h)
  have hown : s.vm.findClass R_Model = some m.cls := findClass_of_methodNamed B.named
  have hlocks := B.notSynchronized
  subst hsz
  have hD := hD0.self (sz := s.heap.size)
  generalize hAe : va_A ([] : va_W) s.heap.size = A at hD ⊢
  have hA : ∀ q : Nat, s.heap.size ≤ q → A q := fun q h => by rw [← hAe]; exact Or.inr h
  have hS : va_S A s.heap s.heap [] := va_S.rf
  have hP : va_P (dC, dI) classes ([] : va_W) s.heap := hP
  have hl := lv_entry ([.long v]) (n := 2) (Nat.le_of_ble_eq_true rfl)
  rw [lg_entry_eq]
  generalize (lg_sl ([.long v]) ++ List.replicate (2 - (lg_sl ([.long v])).length) Slot.unset).toArray = ls at hl ⊢
  have hl : lv_has ls 2 [(0, .long v)] := hl
  refine lv_lload_n hx hb d_Model_kindOf_0 rfl (lv_at hl 0 rfl) ?_
  refine lv_ldc2 (v := 3) hx hb hown (htt _ lk_Model_7) d_Model_kindOf_1 ?_
  refine lv_land hx hb d_Model_kindOf_4 ?_
  refine lv_l2i hx hb d_Model_kindOf_5 rfl ?_
  have hP9 := hP.sub (ws' := []) [] rfl
  have hD9 := hD.sub (ws' := []) [] (by decide) rfl
  exact W.iret (v := (v &&& 3).toInt32) hx hb hr (fun t9 ht hW => ⟨⟨(v &&& 3).toInt32, (), rfl, by unfold m_Model_kindOf_r; rfl, by rw [ht]; exact hP9, va_K.moved hW.alike hK, hD9⟩, hS.F ht⟩) hS.2.2 d_Model_kindOf_6

def m_Model_what_r (v : Int64) : Int32 := (v >>> ((2 : Int32).toInt64 &&& 63)).toInt32
set_option maxHeartbeats 4000000 in
set_option maxRecDepth 100000 in
theorem c_Model_what (l : Launch) (dC : Nat → ClassId) (dI : Nat → Nat → Nat) (sz : Nat) (v : Int64)  : Met l y_Model_what w_Model_what ({ frames := 0, cells := 0, slots := 0, locals := 0 }) (va_Pc [.long v] (fun U => U.heap.size = sz ∧ va_P (dC, dI) classes ([] : va_W) U.heap ∧ va_K (dC, dI) classes [] U ∧ va_D (fun _ => True) ([] : va_W))) (va_Qi (fun (r : Int32) (_ : Unit) => r = m_Model_what_r v) (fun (_ : Unit) t => va_P (dC, dI) classes ([] : va_W) t.heap ∧ va_K (dC, dI) classes [] t ∧ va_D (va_A ([] : va_W) sz) ([] : va_W)) (va_A ([] : va_W) sz)) 0 0 (va_A ([] : va_W) sz) := by
  refine Met.ofW (cc := b_Model_what) (maxL := 2) (ret := (some .int)) (by decide) rfl ?_
  intro p e s m args below meth c s₁ B hml hv
  obtain ⟨rfl, hsz, hP, hK, hD0⟩ := hv
  have hx := B.exec
  have hb := B.bytes
  have hr := B.returns
  have hts := atoms_spec (ws := w_Model_what) B.pre
  have htt : ∀ w ∈ tw_T, w.before _ s = true := fun w h => hts w (List.mem_cons_of_mem _ h)
  have hown : s.vm.findClass R_Model = some m.cls := findClass_of_methodNamed B.named
  have hlocks := B.notSynchronized
  subst hsz
  have hD := hD0.self (sz := s.heap.size)
  generalize hAe : va_A ([] : va_W) s.heap.size = A at hD ⊢
  have hA : ∀ q : Nat, s.heap.size ≤ q → A q := fun q h => by rw [← hAe]; exact Or.inr h
  have hS : va_S A s.heap s.heap [] := va_S.rf
  have hP : va_P (dC, dI) classes ([] : va_W) s.heap := hP
  have hl := lv_entry ([.long v]) (n := 2) (Nat.le_of_ble_eq_true rfl)
  rw [lg_entry_eq]
  generalize (lg_sl ([.long v]) ++ List.replicate (2 - (lg_sl ([.long v])).length) Slot.unset).toArray = ls at hl ⊢
  have hl : lv_has ls 2 [(0, .long v)] := hl
  refine lv_lload_n hx hb d_Model_what_0 rfl (lv_at hl 0 rfl) ?_
  refine lv_iconst (v := 2) hx hb d_Model_what_1 (by decide) ?_
  refine lv_lshr hx hb d_Model_what_2 rfl ?_
  refine lv_l2i hx hb d_Model_what_3 rfl ?_
  have hP9 := hP.sub (ws' := []) [] rfl
  have hD9 := hD.sub (ws' := []) [] (by decide) rfl
  exact W.iret (v := (v >>> ((2 : Int32).toInt64 &&& 63)).toInt32) hx hb hr (fun t9 ht hW => ⟨⟨(v >>> ((2 : Int32).toInt64 &&& 63)).toInt32, (), rfl, by unfold m_Model_what_r; rfl, by rw [ht]; exact hP9, va_K.moved hW.alike hK, hD9⟩, hS.F ht⟩) hS.2.2 d_Model_what_4

def m_Model_number_r (n : Int32) : Int64 := n.toInt64 <<< ((2 : Int32).toInt64 &&& 63)
set_option maxHeartbeats 4000000 in
set_option maxRecDepth 100000 in
theorem c_Model_number (l : Launch) (dC : Nat → ClassId) (dI : Nat → Nat → Nat) (sz : Nat) (n : Int32)  : Met l y_Model_number w_Model_number ({ frames := 0, cells := 0, slots := 0, locals := 0 }) (va_Pc [.int n] (fun U => U.heap.size = sz ∧ va_P (dC, dI) classes ([] : va_W) U.heap ∧ va_K (dC, dI) classes [] U ∧ va_D (fun _ => True) ([] : va_W))) (va_Ql (fun (r : Int64) (_ : Unit) => r = m_Model_number_r n) (fun (_ : Unit) t => va_P (dC, dI) classes ([] : va_W) t.heap ∧ va_K (dC, dI) classes [] t ∧ va_D (va_A ([] : va_W) sz) ([] : va_W)) (va_A ([] : va_W) sz)) 0 0 (va_A ([] : va_W) sz) := by
  refine Met.ofW (cc := b_Model_number) (maxL := 1) (ret := (some .long)) (by decide) rfl ?_
  intro p e s m args below meth c s₁ B hml hv
  obtain ⟨rfl, hsz, hP, hK, hD0⟩ := hv
  have hx := B.exec
  have hb := B.bytes
  have hr := B.returns
  have hts := atoms_spec (ws := w_Model_number) B.pre
  have htt : ∀ w ∈ tw_T, w.before _ s = true := fun w h => hts w (List.mem_cons_of_mem _ h)
  have hown : s.vm.findClass R_Model = some m.cls := findClass_of_methodNamed B.named
  have hlocks := B.notSynchronized
  subst hsz
  have hD := hD0.self (sz := s.heap.size)
  generalize hAe : va_A ([] : va_W) s.heap.size = A at hD ⊢
  have hA : ∀ q : Nat, s.heap.size ≤ q → A q := fun q h => by rw [← hAe]; exact Or.inr h
  have hS : va_S A s.heap s.heap [] := va_S.rf
  have hP : va_P (dC, dI) classes ([] : va_W) s.heap := hP
  have hl := lv_entry ([.int n]) (n := 1) (Nat.le_of_ble_eq_true rfl)
  rw [lg_entry_eq]
  generalize (lg_sl ([.int n]) ++ List.replicate (1 - (lg_sl ([.int n])).length) Slot.unset).toArray = ls at hl ⊢
  have hl : lv_has ls 1 [(0, .int n)] := hl
  refine lv_iload_n hx hb d_Model_number_0 rfl (lv_at hl 0 rfl) ?_
  refine lv_i2l hx hb d_Model_number_1 rfl ?_
  refine lv_iconst (v := 2) hx hb d_Model_number_2 (by decide) ?_
  refine lv_lshl hx hb d_Model_number_3 rfl ?_
  have hP9 := hP.sub (ws' := []) [] rfl
  have hD9 := hD.sub (ws' := []) [] (by decide) rfl
  exact W.lret (v := n.toInt64 <<< ((2 : Int32).toInt64 &&& 63)) hx hb hr (fun t9 ht hW => ⟨⟨n.toInt64 <<< ((2 : Int32).toInt64 &&& 63), (), rfl, by unfold m_Model_number_r; rfl, by rw [ht]; exact hP9, va_K.moved hW.alike hK, hD9⟩, hS.F ht⟩) hS.2.2 d_Model_number_4

def m_Model_wordValue_r (n : Int32) : Int64 := (n.toInt64 <<< ((2 : Int32).toInt64 &&& 63)) ||| 1
set_option maxHeartbeats 4000000 in
set_option maxRecDepth 100000 in
theorem c_Model_wordValue (l : Launch) (dC : Nat → ClassId) (dI : Nat → Nat → Nat) (sz : Nat) (n : Int32)  : Met l y_Model_wordValue w_Model_wordValue ({ frames := 0, cells := 0, slots := 0, locals := 0 }) (va_Pc [.int n] (fun U => U.heap.size = sz ∧ va_P (dC, dI) classes ([] : va_W) U.heap ∧ va_K (dC, dI) classes [] U ∧ va_D (fun _ => True) ([] : va_W))) (va_Ql (fun (r : Int64) (_ : Unit) => r = m_Model_wordValue_r n) (fun (_ : Unit) t => va_P (dC, dI) classes ([] : va_W) t.heap ∧ va_K (dC, dI) classes [] t ∧ va_D (va_A ([] : va_W) sz) ([] : va_W)) (va_A ([] : va_W) sz)) 0 0 (va_A ([] : va_W) sz) := by
  refine Met.ofW (cc := b_Model_wordValue) (maxL := 1) (ret := (some .long)) (by decide) rfl ?_
  intro p e s m args below meth c s₁ B hml hv
  obtain ⟨rfl, hsz, hP, hK, hD0⟩ := hv
  have hx := B.exec
  have hb := B.bytes
  have hr := B.returns
  have hts := atoms_spec (ws := w_Model_wordValue) B.pre
  have htt : ∀ w ∈ tw_T, w.before _ s = true := fun w h => hts w (List.mem_cons_of_mem _ h)
  have hown : s.vm.findClass R_Model = some m.cls := findClass_of_methodNamed B.named
  have hlocks := B.notSynchronized
  subst hsz
  have hD := hD0.self (sz := s.heap.size)
  generalize hAe : va_A ([] : va_W) s.heap.size = A at hD ⊢
  have hA : ∀ q : Nat, s.heap.size ≤ q → A q := fun q h => by rw [← hAe]; exact Or.inr h
  have hS : va_S A s.heap s.heap [] := va_S.rf
  have hP : va_P (dC, dI) classes ([] : va_W) s.heap := hP
  have hl := lv_entry ([.int n]) (n := 1) (Nat.le_of_ble_eq_true rfl)
  rw [lg_entry_eq]
  generalize (lg_sl ([.int n]) ++ List.replicate (1 - (lg_sl ([.int n])).length) Slot.unset).toArray = ls at hl ⊢
  have hl : lv_has ls 1 [(0, .int n)] := hl
  refine lv_iload_n hx hb d_Model_wordValue_0 rfl (lv_at hl 0 rfl) ?_
  refine lv_i2l hx hb d_Model_wordValue_1 rfl ?_
  refine lv_iconst (v := 2) hx hb d_Model_wordValue_2 (by decide) ?_
  refine lv_lshl hx hb d_Model_wordValue_3 rfl ?_
  refine lv_lconst (v := 1) hx hb d_Model_wordValue_4 (by decide) ?_
  refine lv_lor hx hb d_Model_wordValue_5 ?_
  have hP9 := hP.sub (ws' := []) [] rfl
  have hD9 := hD.sub (ws' := []) [] (by decide) rfl
  exact W.lret (v := (n.toInt64 <<< ((2 : Int32).toInt64 &&& 63)) ||| 1) hx hb hr (fun t9 ht hW => ⟨⟨(n.toInt64 <<< ((2 : Int32).toInt64 &&& 63)) ||| 1, (), rfl, by unfold m_Model_wordValue_r; rfl, by rw [ht]; exact hP9, va_K.moved hW.alike hK, hD9⟩, hS.F ht⟩) hS.2.2 d_Model_wordValue_6

def m_Model_listValue_r (n : Int32) : Int64 := (n.toInt64 <<< ((2 : Int32).toInt64 &&& 63)) ||| 2
set_option maxHeartbeats 4000000 in
set_option maxRecDepth 100000 in
theorem c_Model_listValue (l : Launch) (dC : Nat → ClassId) (dI : Nat → Nat → Nat) (sz : Nat) (n : Int32)  : Met l y_Model_listValue w_Model_listValue ({ frames := 0, cells := 0, slots := 0, locals := 0 }) (va_Pc [.int n] (fun U => U.heap.size = sz ∧ va_P (dC, dI) classes ([] : va_W) U.heap ∧ va_K (dC, dI) classes [] U ∧ va_D (fun _ => True) ([] : va_W))) (va_Ql (fun (r : Int64) (_ : Unit) => r = m_Model_listValue_r n) (fun (_ : Unit) t => va_P (dC, dI) classes ([] : va_W) t.heap ∧ va_K (dC, dI) classes [] t ∧ va_D (va_A ([] : va_W) sz) ([] : va_W)) (va_A ([] : va_W) sz)) 0 0 (va_A ([] : va_W) sz) := by
  refine Met.ofW (cc := b_Model_listValue) (maxL := 1) (ret := (some .long)) (by decide) rfl ?_
  intro p e s m args below meth c s₁ B hml hv
  obtain ⟨rfl, hsz, hP, hK, hD0⟩ := hv
  have hx := B.exec
  have hb := B.bytes
  have hr := B.returns
  have hts := atoms_spec (ws := w_Model_listValue) B.pre
  have htt : ∀ w ∈ tw_T, w.before _ s = true := fun w h => hts w (List.mem_cons_of_mem _ h)
  have hown : s.vm.findClass R_Model = some m.cls := findClass_of_methodNamed B.named
  have hlocks := B.notSynchronized
  subst hsz
  have hD := hD0.self (sz := s.heap.size)
  generalize hAe : va_A ([] : va_W) s.heap.size = A at hD ⊢
  have hA : ∀ q : Nat, s.heap.size ≤ q → A q := fun q h => by rw [← hAe]; exact Or.inr h
  have hS : va_S A s.heap s.heap [] := va_S.rf
  have hP : va_P (dC, dI) classes ([] : va_W) s.heap := hP
  have hl := lv_entry ([.int n]) (n := 1) (Nat.le_of_ble_eq_true rfl)
  rw [lg_entry_eq]
  generalize (lg_sl ([.int n]) ++ List.replicate (1 - (lg_sl ([.int n])).length) Slot.unset).toArray = ls at hl ⊢
  have hl : lv_has ls 1 [(0, .int n)] := hl
  refine lv_iload_n hx hb d_Model_listValue_0 rfl (lv_at hl 0 rfl) ?_
  refine lv_i2l hx hb d_Model_listValue_1 rfl ?_
  refine lv_iconst (v := 2) hx hb d_Model_listValue_2 (by decide) ?_
  refine lv_lshl hx hb d_Model_listValue_3 rfl ?_
  refine lv_ldc2 (v := 2) hx hb hown (htt _ lk_Model_9) d_Model_listValue_4 ?_
  refine lv_lor hx hb d_Model_listValue_7 ?_
  have hP9 := hP.sub (ws' := []) [] rfl
  have hD9 := hD.sub (ws' := []) [] (by decide) rfl
  exact W.lret (v := (n.toInt64 <<< ((2 : Int32).toInt64 &&& 63)) ||| 2) hx hb hr (fun t9 ht hW => ⟨⟨(n.toInt64 <<< ((2 : Int32).toInt64 &&& 63)) ||| 2, (), rfl, by unfold m_Model_listValue_r; rfl, by rw [ht]; exact hP9, va_K.moved hW.alike hK, hD9⟩, hS.F ht⟩) hS.2.2 d_Model_listValue_8

def m_Model_isNumber_r (v : Int64) : Int32 := if ((m_Model_kindOf_r v)) = ((0 : Int32)) then 1 else 0
theorem m_Model_isNumber_z {v : Int64} : narrow .boolean (.int (m_Model_isNumber_r v)) = .int (m_Model_isNumber_r v) := by
  unfold m_Model_isNumber_r
  repeat' split
  all_goals first | rfl | rfl | decide
set_option maxHeartbeats 4000000 in
set_option maxRecDepth 100000 in
theorem c_Model_isNumber (l : Launch) (dC : Nat → ClassId) (dI : Nat → Nat → Nat) (sz : Nat) (v : Int64)  : Met l y_Model_isNumber w_Model_isNumber ({ frames := 1, cells := 0, slots := 0, locals := 21 }) (va_Pc [.long v] (fun U => U.heap.size = sz ∧ va_P (dC, dI) classes ([] : va_W) U.heap ∧ va_K (dC, dI) classes [] U ∧ va_D (fun _ => True) ([] : va_W))) (va_Qi (fun (r : Int32) (_ : Unit) => r = m_Model_isNumber_r v) (fun (_ : Unit) t => va_P (dC, dI) classes ([] : va_W) t.heap ∧ va_K (dC, dI) classes [] t ∧ va_D (va_A ([] : va_W) sz) ([] : va_W)) (va_A ([] : va_W) sz)) 0 0 (va_A ([] : va_W) sz) := by
  refine Met.ofW (cc := b_Model_isNumber) (maxL := 2) (ret := (some .boolean)) (by decide) rfl ?_
  intro p e s m args below meth c s₁ B hml hv
  obtain ⟨rfl, hsz, hP, hK, hD0⟩ := hv
  have hx := B.exec
  have hb := B.bytes
  have hr := B.returns
  have hts := atoms_spec (ws := w_Model_isNumber) B.pre
  have htt : ∀ w ∈ tw_T, w.before _ s = true := fun w h => hts w (List.mem_cons_of_mem _ h)
  have hown : s.vm.findClass R_Model = some m.cls := findClass_of_methodNamed B.named
  have hlocks := B.notSynchronized
  subst hsz
  have hD := hD0.self (sz := s.heap.size)
  generalize hAe : va_A ([] : va_W) s.heap.size = A at hD ⊢
  have hA : ∀ q : Nat, s.heap.size ≤ q → A q := fun q h => by rw [← hAe]; exact Or.inr h
  have hS : va_S A s.heap s.heap [] := va_S.rf
  have hP : va_P (dC, dI) classes ([] : va_W) s.heap := hP
  have hl := lv_entry ([.long v]) (n := 2) (Nat.le_of_ble_eq_true rfl)
  rw [lg_entry_eq]
  generalize (lg_sl ([.long v]) ++ List.replicate (2 - (lg_sl ([.long v])).length) Slot.unset).toArray = ls at hl ⊢
  have hl : lv_has ls 2 [(0, .long v)] := hl
  refine lv_lload_n hx hb d_Model_isNumber_0 rfl (lv_at hl 0 rfl) ?_
  have hPc := hP.sub (ws' := []) [] rfl
  have hDc := hD.sub (ws' := []) [] (by decide) rfl
  have hKc := hK.sub (tys' := []) [] rfl
  have hFc := va_free (wc := []) hD hS hA [] rfl
  refine va_calli (va_runS (As := [.long v]) (rest := []) ⟨hx, hb, hml, hown, hts⟩ (c_Model_kindOf l dC dI s.heap.size v) (va_cwS 1 hts (tw_GS tw_cons cw_Model_kindOf lk_Model_11 st_Model_kindOf ini_Model) rfl rfl rfl (by decide +kernel) ⟨Nat.le_of_ble_eq_true rfl, Nat.le_of_ble_eq_true rfl⟩) ⟨fun a U g mk q => by obtain ⟨q0, q1, qP, qK, qD⟩ := q; exact ⟨q0, q1, qP, va_K.moved (u := U) (U := U.calling g mk a) (Vm.Alike.refl U.vm) qK, qD⟩, fun U hU hW => ⟨rfl, by rw [hU], by rw [hU]; exact hPc, va_K.moved hW.alike hKc, hDc.weaken (fun _ _ _ _ => trivial)⟩⟩ rfl rfl hl.1 rfl (lv_room (Nat.le_of_ble_eq_true rfl)) d_Model_isNumber_1 ⟨Nat.le_of_ble_eq_true rfl, Nat.le_of_ble_eq_true rfl⟩) hS (fun q _ h => hFc q h) hFc (fun r9 u9 t9 H1 locs ht hvm e9 hB hz1 hk1 hS => ?_)
  obtain ⟨hP1, hK1, hD1⟩ := hB
  rw [ht] at hP1
  obtain ⟨hP, hD⟩ := va_join (wr := []) (w1 := []) hP hD [] [] rfl rfl (by decide) (by decide) hk1 hFc hP1 hD1
  subst e9
  clear hP1 hD1 hK1 hvm hz1 hk1 hFc hKc hDc hPc
  subst ht
  generalize t9.heap = H at hP hS ⊢
  have hP : va_P (dC, dI) classes [] H := hP
  have hD : va_D A [] := hD
  refine lv_if_ne (tgt := 11) hx hb d_Model_isNumber_4 (by decide) (fun c_1 => ?_) (fun c_1 => ?_)
  · refine lv_iconst (v := 0) hx hb d_Model_isNumber_11 (by decide) ?_
    have hP9 := hP.sub (ws' := []) [] rfl
    have hD9 := hD.sub (ws' := []) [] (by decide) rfl
    exact W.zret (v := 0) hx hb hr (by decide) (fun t9 ht hW => ⟨⟨0, (), rfl, by unfold m_Model_isNumber_r; simp only [if_neg c_1], by rw [ht]; exact hP9, va_K.moved hW.alike hK, hD9⟩, hS.F ht⟩) hS.2.2 d_Model_isNumber_12
  · refine lv_iconst (v := 1) hx hb d_Model_isNumber_7 (by decide) ?_
    refine lv_goto (tgt := 12) hx hb d_Model_isNumber_8 (by decide) ?_
    have hP9 := hP.sub (ws' := []) [] rfl
    have hD9 := hD.sub (ws' := []) [] (by decide) rfl
    exact W.zret (v := 1) hx hb hr (by decide) (fun t9 ht hW => ⟨⟨1, (), rfl, by unfold m_Model_isNumber_r; simp only [if_pos c_1], by rw [ht]; exact hP9, va_K.moved hW.alike hK, hD9⟩, hS.F ht⟩) hS.2.2 d_Model_isNumber_12

def m_Model_isWord_r (v : Int64) : Int32 := if ((m_Model_kindOf_r v)) = ((1 : Int32)) then 1 else 0
theorem m_Model_isWord_z {v : Int64} : narrow .boolean (.int (m_Model_isWord_r v)) = .int (m_Model_isWord_r v) := by
  unfold m_Model_isWord_r
  repeat' split
  all_goals first | rfl | rfl | decide
set_option maxHeartbeats 4000000 in
set_option maxRecDepth 100000 in
theorem c_Model_isWord (l : Launch) (dC : Nat → ClassId) (dI : Nat → Nat → Nat) (sz : Nat) (v : Int64)  : Met l y_Model_isWord w_Model_isWord ({ frames := 1, cells := 0, slots := 0, locals := 21 }) (va_Pc [.long v] (fun U => U.heap.size = sz ∧ va_P (dC, dI) classes ([] : va_W) U.heap ∧ va_K (dC, dI) classes [] U ∧ va_D (fun _ => True) ([] : va_W))) (va_Qi (fun (r : Int32) (_ : Unit) => r = m_Model_isWord_r v) (fun (_ : Unit) t => va_P (dC, dI) classes ([] : va_W) t.heap ∧ va_K (dC, dI) classes [] t ∧ va_D (va_A ([] : va_W) sz) ([] : va_W)) (va_A ([] : va_W) sz)) 0 0 (va_A ([] : va_W) sz) := by
  refine Met.ofW (cc := b_Model_isWord) (maxL := 2) (ret := (some .boolean)) (by decide) rfl ?_
  intro p e s m args below meth c s₁ B hml hv
  obtain ⟨rfl, hsz, hP, hK, hD0⟩ := hv
  have hx := B.exec
  have hb := B.bytes
  have hr := B.returns
  have hts := atoms_spec (ws := w_Model_isWord) B.pre
  have htt : ∀ w ∈ tw_T, w.before _ s = true := fun w h => hts w (List.mem_cons_of_mem _ h)
  have hown : s.vm.findClass R_Model = some m.cls := findClass_of_methodNamed B.named
  have hlocks := B.notSynchronized
  subst hsz
  have hD := hD0.self (sz := s.heap.size)
  generalize hAe : va_A ([] : va_W) s.heap.size = A at hD ⊢
  have hA : ∀ q : Nat, s.heap.size ≤ q → A q := fun q h => by rw [← hAe]; exact Or.inr h
  have hS : va_S A s.heap s.heap [] := va_S.rf
  have hP : va_P (dC, dI) classes ([] : va_W) s.heap := hP
  have hl := lv_entry ([.long v]) (n := 2) (Nat.le_of_ble_eq_true rfl)
  rw [lg_entry_eq]
  generalize (lg_sl ([.long v]) ++ List.replicate (2 - (lg_sl ([.long v])).length) Slot.unset).toArray = ls at hl ⊢
  have hl : lv_has ls 2 [(0, .long v)] := hl
  refine lv_lload_n hx hb d_Model_isWord_0 rfl (lv_at hl 0 rfl) ?_
  have hPc := hP.sub (ws' := []) [] rfl
  have hDc := hD.sub (ws' := []) [] (by decide) rfl
  have hKc := hK.sub (tys' := []) [] rfl
  have hFc := va_free (wc := []) hD hS hA [] rfl
  refine va_calli (va_runS (As := [.long v]) (rest := []) ⟨hx, hb, hml, hown, hts⟩ (c_Model_kindOf l dC dI s.heap.size v) (va_cwS 1 hts (tw_GS tw_cons cw_Model_kindOf lk_Model_11 st_Model_kindOf ini_Model) rfl rfl rfl (by decide +kernel) ⟨Nat.le_of_ble_eq_true rfl, Nat.le_of_ble_eq_true rfl⟩) ⟨fun a U g mk q => by obtain ⟨q0, q1, qP, qK, qD⟩ := q; exact ⟨q0, q1, qP, va_K.moved (u := U) (U := U.calling g mk a) (Vm.Alike.refl U.vm) qK, qD⟩, fun U hU hW => ⟨rfl, by rw [hU], by rw [hU]; exact hPc, va_K.moved hW.alike hKc, hDc.weaken (fun _ _ _ _ => trivial)⟩⟩ rfl rfl hl.1 rfl (lv_room (Nat.le_of_ble_eq_true rfl)) d_Model_isWord_1 ⟨Nat.le_of_ble_eq_true rfl, Nat.le_of_ble_eq_true rfl⟩) hS (fun q _ h => hFc q h) hFc (fun r9 u9 t9 H1 locs ht hvm e9 hB hz1 hk1 hS => ?_)
  obtain ⟨hP1, hK1, hD1⟩ := hB
  rw [ht] at hP1
  obtain ⟨hP, hD⟩ := va_join (wr := []) (w1 := []) hP hD [] [] rfl rfl (by decide) (by decide) hk1 hFc hP1 hD1
  subst e9
  clear hP1 hD1 hK1 hvm hz1 hk1 hFc hKc hDc hPc
  subst ht
  generalize t9.heap = H at hP hS ⊢
  have hP : va_P (dC, dI) classes [] H := hP
  have hD : va_D A [] := hD
  refine lv_iconst (v := 1) hx hb d_Model_isWord_4 (by decide) ?_
  refine lv_icmp_ne (tgt := 12) hx hb d_Model_isWord_5 (by decide) (fun c_1 => ?_) (fun c_1 => ?_)
  · refine lv_iconst (v := 0) hx hb d_Model_isWord_12 (by decide) ?_
    have hP9 := hP.sub (ws' := []) [] rfl
    have hD9 := hD.sub (ws' := []) [] (by decide) rfl
    exact W.zret (v := 0) hx hb hr (by decide) (fun t9 ht hW => ⟨⟨0, (), rfl, by unfold m_Model_isWord_r; simp only [if_neg c_1], by rw [ht]; exact hP9, va_K.moved hW.alike hK, hD9⟩, hS.F ht⟩) hS.2.2 d_Model_isWord_13
  · refine lv_iconst (v := 1) hx hb d_Model_isWord_8 (by decide) ?_
    refine lv_goto (tgt := 13) hx hb d_Model_isWord_9 (by decide) ?_
    have hP9 := hP.sub (ws' := []) [] rfl
    have hD9 := hD.sub (ws' := []) [] (by decide) rfl
    exact W.zret (v := 1) hx hb hr (by decide) (fun t9 ht hW => ⟨⟨1, (), rfl, by unfold m_Model_isWord_r; simp only [if_pos c_1], by rw [ht]; exact hP9, va_K.moved hW.alike hK, hD9⟩, hS.F ht⟩) hS.2.2 d_Model_isWord_13

def m_Model_isList_r (v : Int64) : Int32 := if ((m_Model_kindOf_r v)) = ((2 : Int32)) then 1 else 0
theorem m_Model_isList_z {v : Int64} : narrow .boolean (.int (m_Model_isList_r v)) = .int (m_Model_isList_r v) := by
  unfold m_Model_isList_r
  repeat' split
  all_goals first | rfl | rfl | decide
set_option maxHeartbeats 4000000 in
set_option maxRecDepth 100000 in
theorem c_Model_isList (l : Launch) (dC : Nat → ClassId) (dI : Nat → Nat → Nat) (sz : Nat) (v : Int64)  : Met l y_Model_isList w_Model_isList ({ frames := 1, cells := 0, slots := 0, locals := 21 }) (va_Pc [.long v] (fun U => U.heap.size = sz ∧ va_P (dC, dI) classes ([] : va_W) U.heap ∧ va_K (dC, dI) classes [] U ∧ va_D (fun _ => True) ([] : va_W))) (va_Qi (fun (r : Int32) (_ : Unit) => r = m_Model_isList_r v) (fun (_ : Unit) t => va_P (dC, dI) classes ([] : va_W) t.heap ∧ va_K (dC, dI) classes [] t ∧ va_D (va_A ([] : va_W) sz) ([] : va_W)) (va_A ([] : va_W) sz)) 0 0 (va_A ([] : va_W) sz) := by
  refine Met.ofW (cc := b_Model_isList) (maxL := 2) (ret := (some .boolean)) (by decide) rfl ?_
  intro p e s m args below meth c s₁ B hml hv
  obtain ⟨rfl, hsz, hP, hK, hD0⟩ := hv
  have hx := B.exec
  have hb := B.bytes
  have hr := B.returns
  have hts := atoms_spec (ws := w_Model_isList) B.pre
  have htt : ∀ w ∈ tw_T, w.before _ s = true := fun w h => hts w (List.mem_cons_of_mem _ h)
  have hown : s.vm.findClass R_Model = some m.cls := findClass_of_methodNamed B.named
  have hlocks := B.notSynchronized
  subst hsz
  have hD := hD0.self (sz := s.heap.size)
  generalize hAe : va_A ([] : va_W) s.heap.size = A at hD ⊢
  have hA : ∀ q : Nat, s.heap.size ≤ q → A q := fun q h => by rw [← hAe]; exact Or.inr h
  have hS : va_S A s.heap s.heap [] := va_S.rf
  have hP : va_P (dC, dI) classes ([] : va_W) s.heap := hP
  have hl := lv_entry ([.long v]) (n := 2) (Nat.le_of_ble_eq_true rfl)
  rw [lg_entry_eq]
  generalize (lg_sl ([.long v]) ++ List.replicate (2 - (lg_sl ([.long v])).length) Slot.unset).toArray = ls at hl ⊢
  have hl : lv_has ls 2 [(0, .long v)] := hl
  refine lv_lload_n hx hb d_Model_isList_0 rfl (lv_at hl 0 rfl) ?_
  have hPc := hP.sub (ws' := []) [] rfl
  have hDc := hD.sub (ws' := []) [] (by decide) rfl
  have hKc := hK.sub (tys' := []) [] rfl
  have hFc := va_free (wc := []) hD hS hA [] rfl
  refine va_calli (va_runS (As := [.long v]) (rest := []) ⟨hx, hb, hml, hown, hts⟩ (c_Model_kindOf l dC dI s.heap.size v) (va_cwS 1 hts (tw_GS tw_cons cw_Model_kindOf lk_Model_11 st_Model_kindOf ini_Model) rfl rfl rfl (by decide +kernel) ⟨Nat.le_of_ble_eq_true rfl, Nat.le_of_ble_eq_true rfl⟩) ⟨fun a U g mk q => by obtain ⟨q0, q1, qP, qK, qD⟩ := q; exact ⟨q0, q1, qP, va_K.moved (u := U) (U := U.calling g mk a) (Vm.Alike.refl U.vm) qK, qD⟩, fun U hU hW => ⟨rfl, by rw [hU], by rw [hU]; exact hPc, va_K.moved hW.alike hKc, hDc.weaken (fun _ _ _ _ => trivial)⟩⟩ rfl rfl hl.1 rfl (lv_room (Nat.le_of_ble_eq_true rfl)) d_Model_isList_1 ⟨Nat.le_of_ble_eq_true rfl, Nat.le_of_ble_eq_true rfl⟩) hS (fun q _ h => hFc q h) hFc (fun r9 u9 t9 H1 locs ht hvm e9 hB hz1 hk1 hS => ?_)
  obtain ⟨hP1, hK1, hD1⟩ := hB
  rw [ht] at hP1
  obtain ⟨hP, hD⟩ := va_join (wr := []) (w1 := []) hP hD [] [] rfl rfl (by decide) (by decide) hk1 hFc hP1 hD1
  subst e9
  clear hP1 hD1 hK1 hvm hz1 hk1 hFc hKc hDc hPc
  subst ht
  generalize t9.heap = H at hP hS ⊢
  have hP : va_P (dC, dI) classes [] H := hP
  have hD : va_D A [] := hD
  refine lv_iconst (v := 2) hx hb d_Model_isList_4 (by decide) ?_
  refine lv_icmp_ne (tgt := 12) hx hb d_Model_isList_5 (by decide) (fun c_1 => ?_) (fun c_1 => ?_)
  · refine lv_iconst (v := 0) hx hb d_Model_isList_12 (by decide) ?_
    have hP9 := hP.sub (ws' := []) [] rfl
    have hD9 := hD.sub (ws' := []) [] (by decide) rfl
    exact W.zret (v := 0) hx hb hr (by decide) (fun t9 ht hW => ⟨⟨0, (), rfl, by unfold m_Model_isList_r; simp only [if_neg c_1], by rw [ht]; exact hP9, va_K.moved hW.alike hK, hD9⟩, hS.F ht⟩) hS.2.2 d_Model_isList_13
  · refine lv_iconst (v := 1) hx hb d_Model_isList_8 (by decide) ?_
    refine lv_goto (tgt := 13) hx hb d_Model_isList_9 (by decide) ?_
    have hP9 := hP.sub (ws' := []) [] rfl
    have hD9 := hD.sub (ws' := []) [] (by decide) rfl
    exact W.zret (v := 1) hx hb hr (by decide) (fun t9 ht hW => ⟨⟨1, (), rfl, by unfold m_Model_isList_r; simp only [if_pos c_1], by rw [ht]; exact hP9, va_K.moved hW.alike hK, hD9⟩, hS.F ht⟩) hS.2.2 d_Model_isList_13

def m_Model_isSign_r (b : Int32) : Int32 := if b = ((43 : Int32)) then 1 else if b = ((45 : Int32)) then 1 else if b = ((42 : Int32)) then 1 else if b = ((47 : Int32)) then 1 else if b = ((61 : Int32)) then 1 else if b = ((60 : Int32)) then 1 else if b = ((62 : Int32)) then 1 else 0
theorem m_Model_isSign_z {b : Int32} : narrow .boolean (.int (m_Model_isSign_r b)) = .int (m_Model_isSign_r b) := by
  unfold m_Model_isSign_r
  repeat' split
  all_goals first | rfl | rfl | decide
set_option maxHeartbeats 4000000 in
set_option maxRecDepth 100000 in
theorem c_Model_isSign (l : Launch) (dC : Nat → ClassId) (dI : Nat → Nat → Nat) (sz : Nat) (b : Int32)  : Met l y_Model_isSign w_Model_isSign ({ frames := 0, cells := 0, slots := 0, locals := 0 }) (va_Pc [.int b] (fun U => U.heap.size = sz ∧ va_P (dC, dI) classes ([] : va_W) U.heap ∧ va_K (dC, dI) classes [] U ∧ va_D (fun _ => True) ([] : va_W))) (va_Qi (fun (r : Int32) (_ : Unit) => r = m_Model_isSign_r b) (fun (_ : Unit) t => va_P (dC, dI) classes ([] : va_W) t.heap ∧ va_K (dC, dI) classes [] t ∧ va_D (va_A ([] : va_W) sz) ([] : va_W)) (va_A ([] : va_W) sz)) 0 0 (va_A ([] : va_W) sz) := by
  refine Met.ofW (cc := b_Model_isSign) (maxL := 1) (ret := (some .boolean)) (by decide) rfl ?_
  intro p e s m args below meth c s₁ B hml hv
  obtain ⟨rfl, hsz, hP, hK, hD0⟩ := hv
  have hx := B.exec
  have hb := B.bytes
  have hr := B.returns
  have hts := atoms_spec (ws := w_Model_isSign) B.pre
  have htt : ∀ w ∈ tw_T, w.before _ s = true := fun w h => hts w (List.mem_cons_of_mem _ h)
  have hown : s.vm.findClass R_Model = some m.cls := findClass_of_methodNamed B.named
  have hlocks := B.notSynchronized
  subst hsz
  have hD := hD0.self (sz := s.heap.size)
  generalize hAe : va_A ([] : va_W) s.heap.size = A at hD ⊢
  have hA : ∀ q : Nat, s.heap.size ≤ q → A q := fun q h => by rw [← hAe]; exact Or.inr h
  have hS : va_S A s.heap s.heap [] := va_S.rf
  have hP : va_P (dC, dI) classes ([] : va_W) s.heap := hP
  have hl := lv_entry ([.int b]) (n := 1) (Nat.le_of_ble_eq_true rfl)
  rw [lg_entry_eq]
  generalize (lg_sl ([.int b]) ++ List.replicate (1 - (lg_sl ([.int b])).length) Slot.unset).toArray = ls at hl ⊢
  have hl : lv_has ls 1 [(0, .int b)] := hl
  refine lv_iload_n hx hb d_Model_isSign_0 rfl (lv_at hl 0 rfl) ?_
  refine lv_bipush (v := 43) hx hb d_Model_isSign_1 (by decide) ?_
  refine lv_icmp_eq (tgt := 42) hx hb d_Model_isSign_3 (by decide) (fun c_1 => ?_) (fun c_1 => ?_)
  · refine lv_iconst (v := 1) hx hb d_Model_isSign_42 (by decide) ?_
    refine lv_goto (tgt := 47) hx hb d_Model_isSign_43 (by decide) ?_
    have hP9 := hP.sub (ws' := []) [] rfl
    have hD9 := hD.sub (ws' := []) [] (by decide) rfl
    exact W.zret (v := 1) hx hb hr (by decide) (fun t9 ht hW => ⟨⟨1, (), rfl, by unfold m_Model_isSign_r; simp only [if_pos c_1], by rw [ht]; exact hP9, va_K.moved hW.alike hK, hD9⟩, hS.F ht⟩) hS.2.2 d_Model_isSign_47
  · refine lv_iload_n hx hb d_Model_isSign_6 rfl (lv_at hl 0 rfl) ?_
    refine lv_bipush (v := 45) hx hb d_Model_isSign_7 (by decide) ?_
    refine lv_icmp_eq (tgt := 42) hx hb d_Model_isSign_9 (by decide) (fun c_2 => ?_) (fun c_2 => ?_)
    · refine lv_iconst (v := 1) hx hb d_Model_isSign_42 (by decide) ?_
      refine lv_goto (tgt := 47) hx hb d_Model_isSign_43 (by decide) ?_
      have hP9 := hP.sub (ws' := []) [] rfl
      have hD9 := hD.sub (ws' := []) [] (by decide) rfl
      exact W.zret (v := 1) hx hb hr (by decide) (fun t9 ht hW => ⟨⟨1, (), rfl, by unfold m_Model_isSign_r; simp only [if_neg c_1, if_pos c_2], by rw [ht]; exact hP9, va_K.moved hW.alike hK, hD9⟩, hS.F ht⟩) hS.2.2 d_Model_isSign_47
    · refine lv_iload_n hx hb d_Model_isSign_12 rfl (lv_at hl 0 rfl) ?_
      refine lv_bipush (v := 42) hx hb d_Model_isSign_13 (by decide) ?_
      refine lv_icmp_eq (tgt := 42) hx hb d_Model_isSign_15 (by decide) (fun c_3 => ?_) (fun c_3 => ?_)
      · refine lv_iconst (v := 1) hx hb d_Model_isSign_42 (by decide) ?_
        refine lv_goto (tgt := 47) hx hb d_Model_isSign_43 (by decide) ?_
        have hP9 := hP.sub (ws' := []) [] rfl
        have hD9 := hD.sub (ws' := []) [] (by decide) rfl
        exact W.zret (v := 1) hx hb hr (by decide) (fun t9 ht hW => ⟨⟨1, (), rfl, by unfold m_Model_isSign_r; simp only [if_neg c_1, if_neg c_2, if_pos c_3], by rw [ht]; exact hP9, va_K.moved hW.alike hK, hD9⟩, hS.F ht⟩) hS.2.2 d_Model_isSign_47
      · refine lv_iload_n hx hb d_Model_isSign_18 rfl (lv_at hl 0 rfl) ?_
        refine lv_bipush (v := 47) hx hb d_Model_isSign_19 (by decide) ?_
        refine lv_icmp_eq (tgt := 42) hx hb d_Model_isSign_21 (by decide) (fun c_4 => ?_) (fun c_4 => ?_)
        · refine lv_iconst (v := 1) hx hb d_Model_isSign_42 (by decide) ?_
          refine lv_goto (tgt := 47) hx hb d_Model_isSign_43 (by decide) ?_
          have hP9 := hP.sub (ws' := []) [] rfl
          have hD9 := hD.sub (ws' := []) [] (by decide) rfl
          exact W.zret (v := 1) hx hb hr (by decide) (fun t9 ht hW => ⟨⟨1, (), rfl, by unfold m_Model_isSign_r; simp only [if_neg c_1, if_neg c_2, if_neg c_3, if_pos c_4], by rw [ht]; exact hP9, va_K.moved hW.alike hK, hD9⟩, hS.F ht⟩) hS.2.2 d_Model_isSign_47
        · refine lv_iload_n hx hb d_Model_isSign_24 rfl (lv_at hl 0 rfl) ?_
          refine lv_bipush (v := 61) hx hb d_Model_isSign_25 (by decide) ?_
          refine lv_icmp_eq (tgt := 42) hx hb d_Model_isSign_27 (by decide) (fun c_5 => ?_) (fun c_5 => ?_)
          · refine lv_iconst (v := 1) hx hb d_Model_isSign_42 (by decide) ?_
            refine lv_goto (tgt := 47) hx hb d_Model_isSign_43 (by decide) ?_
            have hP9 := hP.sub (ws' := []) [] rfl
            have hD9 := hD.sub (ws' := []) [] (by decide) rfl
            exact W.zret (v := 1) hx hb hr (by decide) (fun t9 ht hW => ⟨⟨1, (), rfl, by unfold m_Model_isSign_r; simp only [if_neg c_1, if_neg c_2, if_neg c_3, if_neg c_4, if_pos c_5], by rw [ht]; exact hP9, va_K.moved hW.alike hK, hD9⟩, hS.F ht⟩) hS.2.2 d_Model_isSign_47
          · refine lv_iload_n hx hb d_Model_isSign_30 rfl (lv_at hl 0 rfl) ?_
            refine lv_bipush (v := 60) hx hb d_Model_isSign_31 (by decide) ?_
            refine lv_icmp_eq (tgt := 42) hx hb d_Model_isSign_33 (by decide) (fun c_6 => ?_) (fun c_6 => ?_)
            · refine lv_iconst (v := 1) hx hb d_Model_isSign_42 (by decide) ?_
              refine lv_goto (tgt := 47) hx hb d_Model_isSign_43 (by decide) ?_
              have hP9 := hP.sub (ws' := []) [] rfl
              have hD9 := hD.sub (ws' := []) [] (by decide) rfl
              exact W.zret (v := 1) hx hb hr (by decide) (fun t9 ht hW => ⟨⟨1, (), rfl, by unfold m_Model_isSign_r; simp only [if_neg c_1, if_neg c_2, if_neg c_3, if_neg c_4, if_neg c_5, if_pos c_6], by rw [ht]; exact hP9, va_K.moved hW.alike hK, hD9⟩, hS.F ht⟩) hS.2.2 d_Model_isSign_47
            · refine lv_iload_n hx hb d_Model_isSign_36 rfl (lv_at hl 0 rfl) ?_
              refine lv_bipush (v := 62) hx hb d_Model_isSign_37 (by decide) ?_
              refine lv_icmp_ne (tgt := 46) hx hb d_Model_isSign_39 (by decide) (fun c_7 => ?_) (fun c_7 => ?_)
              · refine lv_iconst (v := 0) hx hb d_Model_isSign_46 (by decide) ?_
                have hP9 := hP.sub (ws' := []) [] rfl
                have hD9 := hD.sub (ws' := []) [] (by decide) rfl
                exact W.zret (v := 0) hx hb hr (by decide) (fun t9 ht hW => ⟨⟨0, (), rfl, by unfold m_Model_isSign_r; simp only [if_neg c_1, if_neg c_2, if_neg c_3, if_neg c_4, if_neg c_5, if_neg c_6, if_neg c_7], by rw [ht]; exact hP9, va_K.moved hW.alike hK, hD9⟩, hS.F ht⟩) hS.2.2 d_Model_isSign_47
              · refine lv_iconst (v := 1) hx hb d_Model_isSign_42 (by decide) ?_
                refine lv_goto (tgt := 47) hx hb d_Model_isSign_43 (by decide) ?_
                have hP9 := hP.sub (ws' := []) [] rfl
                have hD9 := hD.sub (ws' := []) [] (by decide) rfl
                exact W.zret (v := 1) hx hb hr (by decide) (fun t9 ht hW => ⟨⟨1, (), rfl, by unfold m_Model_isSign_r; simp only [if_neg c_1, if_neg c_2, if_neg c_3, if_neg c_4, if_neg c_5, if_neg c_6, if_pos c_7], by rw [ht]; exact hP9, va_K.moved hW.alike hK, hD9⟩, hS.F ht⟩) hS.2.2 d_Model_isSign_47

def m_Model_isDigit_r (b : Int32) : Int32 := if b < ((48 : Int32)) then 0 else if ((57 : Int32)) < b then 0 else 1
theorem m_Model_isDigit_z {b : Int32} : narrow .boolean (.int (m_Model_isDigit_r b)) = .int (m_Model_isDigit_r b) := by
  unfold m_Model_isDigit_r
  repeat' split
  all_goals first | rfl | rfl | decide
set_option maxHeartbeats 4000000 in
set_option maxRecDepth 100000 in
theorem c_Model_isDigit (l : Launch) (dC : Nat → ClassId) (dI : Nat → Nat → Nat) (sz : Nat) (b : Int32)  : Met l y_Model_isDigit w_Model_isDigit ({ frames := 0, cells := 0, slots := 0, locals := 0 }) (va_Pc [.int b] (fun U => U.heap.size = sz ∧ va_P (dC, dI) classes ([] : va_W) U.heap ∧ va_K (dC, dI) classes [] U ∧ va_D (fun _ => True) ([] : va_W))) (va_Qi (fun (r : Int32) (_ : Unit) => r = m_Model_isDigit_r b) (fun (_ : Unit) t => va_P (dC, dI) classes ([] : va_W) t.heap ∧ va_K (dC, dI) classes [] t ∧ va_D (va_A ([] : va_W) sz) ([] : va_W)) (va_A ([] : va_W) sz)) 0 0 (va_A ([] : va_W) sz) := by
  refine Met.ofW (cc := b_Model_isDigit) (maxL := 1) (ret := (some .boolean)) (by decide) rfl ?_
  intro p e s m args below meth c s₁ B hml hv
  obtain ⟨rfl, hsz, hP, hK, hD0⟩ := hv
  have hx := B.exec
  have hb := B.bytes
  have hr := B.returns
  have hts := atoms_spec (ws := w_Model_isDigit) B.pre
  have htt : ∀ w ∈ tw_T, w.before _ s = true := fun w h => hts w (List.mem_cons_of_mem _ h)
  have hown : s.vm.findClass R_Model = some m.cls := findClass_of_methodNamed B.named
  have hlocks := B.notSynchronized
  subst hsz
  have hD := hD0.self (sz := s.heap.size)
  generalize hAe : va_A ([] : va_W) s.heap.size = A at hD ⊢
  have hA : ∀ q : Nat, s.heap.size ≤ q → A q := fun q h => by rw [← hAe]; exact Or.inr h
  have hS : va_S A s.heap s.heap [] := va_S.rf
  have hP : va_P (dC, dI) classes ([] : va_W) s.heap := hP
  have hl := lv_entry ([.int b]) (n := 1) (Nat.le_of_ble_eq_true rfl)
  rw [lg_entry_eq]
  generalize (lg_sl ([.int b]) ++ List.replicate (1 - (lg_sl ([.int b])).length) Slot.unset).toArray = ls at hl ⊢
  have hl : lv_has ls 1 [(0, .int b)] := hl
  refine lv_iload_n hx hb d_Model_isDigit_0 rfl (lv_at hl 0 rfl) ?_
  refine lv_bipush (v := 48) hx hb d_Model_isDigit_1 (by decide) ?_
  refine lv_icmp_lt (tgt := 16) hx hb d_Model_isDigit_3 (by decide) (fun c_1 => ?_) (fun c_1 => ?_)
  · refine lv_iconst (v := 0) hx hb d_Model_isDigit_16 (by decide) ?_
    have hP9 := hP.sub (ws' := []) [] rfl
    have hD9 := hD.sub (ws' := []) [] (by decide) rfl
    exact W.zret (v := 0) hx hb hr (by decide) (fun t9 ht hW => ⟨⟨0, (), rfl, by unfold m_Model_isDigit_r; simp only [if_pos c_1], by rw [ht]; exact hP9, va_K.moved hW.alike hK, hD9⟩, hS.F ht⟩) hS.2.2 d_Model_isDigit_17
  · refine lv_iload_n hx hb d_Model_isDigit_6 rfl (lv_at hl 0 rfl) ?_
    refine lv_bipush (v := 57) hx hb d_Model_isDigit_7 (by decide) ?_
    refine lv_icmp_gt (tgt := 16) hx hb d_Model_isDigit_9 (by decide) (fun c_2 => ?_) (fun c_2 => ?_)
    · refine lv_iconst (v := 0) hx hb d_Model_isDigit_16 (by decide) ?_
      have hP9 := hP.sub (ws' := []) [] rfl
      have hD9 := hD.sub (ws' := []) [] (by decide) rfl
      exact W.zret (v := 0) hx hb hr (by decide) (fun t9 ht hW => ⟨⟨0, (), rfl, by unfold m_Model_isDigit_r; simp only [if_neg c_1, if_pos c_2], by rw [ht]; exact hP9, va_K.moved hW.alike hK, hD9⟩, hS.F ht⟩) hS.2.2 d_Model_isDigit_17
    · refine lv_iconst (v := 1) hx hb d_Model_isDigit_12 (by decide) ?_
      refine lv_goto (tgt := 17) hx hb d_Model_isDigit_13 (by decide) ?_
      have hP9 := hP.sub (ws' := []) [] rfl
      have hD9 := hD.sub (ws' := []) [] (by decide) rfl
      exact W.zret (v := 1) hx hb hr (by decide) (fun t9 ht hW => ⟨⟨1, (), rfl, by unfold m_Model_isDigit_r; simp only [if_neg c_1, if_neg c_2], by rw [ht]; exact hP9, va_K.moved hW.alike hK, hD9⟩, hS.F ht⟩) hS.2.2 d_Model_isDigit_17

def m_Model_isGood_r (b : Int32) : Int32 := if b = ((10 : Int32)) then 1 else if b < ((32 : Int32)) then 0 else if ((126 : Int32)) < b then 0 else 1
theorem m_Model_isGood_z {b : Int32} : narrow .boolean (.int (m_Model_isGood_r b)) = .int (m_Model_isGood_r b) := by
  unfold m_Model_isGood_r
  repeat' split
  all_goals first | rfl | rfl | decide
set_option maxHeartbeats 4000000 in
set_option maxRecDepth 100000 in
theorem c_Model_isGood (l : Launch) (dC : Nat → ClassId) (dI : Nat → Nat → Nat) (sz : Nat) (b : Int32)  : Met l y_Model_isGood w_Model_isGood ({ frames := 0, cells := 0, slots := 0, locals := 0 }) (va_Pc [.int b] (fun U => U.heap.size = sz ∧ va_P (dC, dI) classes ([] : va_W) U.heap ∧ va_K (dC, dI) classes [] U ∧ va_D (fun _ => True) ([] : va_W))) (va_Qi (fun (r : Int32) (_ : Unit) => r = m_Model_isGood_r b) (fun (_ : Unit) t => va_P (dC, dI) classes ([] : va_W) t.heap ∧ va_K (dC, dI) classes [] t ∧ va_D (va_A ([] : va_W) sz) ([] : va_W)) (va_A ([] : va_W) sz)) 0 0 (va_A ([] : va_W) sz) := by
  refine Met.ofW (cc := b_Model_isGood) (maxL := 1) (ret := (some .boolean)) (by decide) rfl ?_
  intro p e s m args below meth c s₁ B hml hv
  obtain ⟨rfl, hsz, hP, hK, hD0⟩ := hv
  have hx := B.exec
  have hb := B.bytes
  have hr := B.returns
  have hts := atoms_spec (ws := w_Model_isGood) B.pre
  have htt : ∀ w ∈ tw_T, w.before _ s = true := fun w h => hts w (List.mem_cons_of_mem _ h)
  have hown : s.vm.findClass R_Model = some m.cls := findClass_of_methodNamed B.named
  have hlocks := B.notSynchronized
  subst hsz
  have hD := hD0.self (sz := s.heap.size)
  generalize hAe : va_A ([] : va_W) s.heap.size = A at hD ⊢
  have hA : ∀ q : Nat, s.heap.size ≤ q → A q := fun q h => by rw [← hAe]; exact Or.inr h
  have hS : va_S A s.heap s.heap [] := va_S.rf
  have hP : va_P (dC, dI) classes ([] : va_W) s.heap := hP
  have hl := lv_entry ([.int b]) (n := 1) (Nat.le_of_ble_eq_true rfl)
  rw [lg_entry_eq]
  generalize (lg_sl ([.int b]) ++ List.replicate (1 - (lg_sl ([.int b])).length) Slot.unset).toArray = ls at hl ⊢
  have hl : lv_has ls 1 [(0, .int b)] := hl
  refine lv_iload_n hx hb d_Model_isGood_0 rfl (lv_at hl 0 rfl) ?_
  refine lv_bipush (v := 10) hx hb d_Model_isGood_1 (by decide) ?_
  refine lv_icmp_eq (tgt := 18) hx hb d_Model_isGood_3 (by decide) (fun c_1 => ?_) (fun c_1 => ?_)
  · refine lv_iconst (v := 1) hx hb d_Model_isGood_18 (by decide) ?_
    refine lv_goto (tgt := 23) hx hb d_Model_isGood_19 (by decide) ?_
    have hP9 := hP.sub (ws' := []) [] rfl
    have hD9 := hD.sub (ws' := []) [] (by decide) rfl
    exact W.zret (v := 1) hx hb hr (by decide) (fun t9 ht hW => ⟨⟨1, (), rfl, by unfold m_Model_isGood_r; simp only [if_pos c_1], by rw [ht]; exact hP9, va_K.moved hW.alike hK, hD9⟩, hS.F ht⟩) hS.2.2 d_Model_isGood_23
  · refine lv_iload_n hx hb d_Model_isGood_6 rfl (lv_at hl 0 rfl) ?_
    refine lv_bipush (v := 32) hx hb d_Model_isGood_7 (by decide) ?_
    refine lv_icmp_lt (tgt := 22) hx hb d_Model_isGood_9 (by decide) (fun c_2 => ?_) (fun c_2 => ?_)
    · refine lv_iconst (v := 0) hx hb d_Model_isGood_22 (by decide) ?_
      have hP9 := hP.sub (ws' := []) [] rfl
      have hD9 := hD.sub (ws' := []) [] (by decide) rfl
      exact W.zret (v := 0) hx hb hr (by decide) (fun t9 ht hW => ⟨⟨0, (), rfl, by unfold m_Model_isGood_r; simp only [if_neg c_1, if_pos c_2], by rw [ht]; exact hP9, va_K.moved hW.alike hK, hD9⟩, hS.F ht⟩) hS.2.2 d_Model_isGood_23
    · refine lv_iload_n hx hb d_Model_isGood_12 rfl (lv_at hl 0 rfl) ?_
      refine lv_bipush (v := 126) hx hb d_Model_isGood_13 (by decide) ?_
      refine lv_icmp_gt (tgt := 22) hx hb d_Model_isGood_15 (by decide) (fun c_3 => ?_) (fun c_3 => ?_)
      · refine lv_iconst (v := 0) hx hb d_Model_isGood_22 (by decide) ?_
        have hP9 := hP.sub (ws' := []) [] rfl
        have hD9 := hD.sub (ws' := []) [] (by decide) rfl
        exact W.zret (v := 0) hx hb hr (by decide) (fun t9 ht hW => ⟨⟨0, (), rfl, by unfold m_Model_isGood_r; simp only [if_neg c_1, if_neg c_2, if_pos c_3], by rw [ht]; exact hP9, va_K.moved hW.alike hK, hD9⟩, hS.F ht⟩) hS.2.2 d_Model_isGood_23
      · refine lv_iconst (v := 1) hx hb d_Model_isGood_18 (by decide) ?_
        refine lv_goto (tgt := 23) hx hb d_Model_isGood_19 (by decide) ?_
        have hP9 := hP.sub (ws' := []) [] rfl
        have hD9 := hD.sub (ws' := []) [] (by decide) rfl
        exact W.zret (v := 1) hx hb hr (by decide) (fun t9 ht hW => ⟨⟨1, (), rfl, by unfold m_Model_isGood_r; simp only [if_neg c_1, if_neg c_2, if_neg c_3], by rw [ht]; exact hP9, va_K.moved hW.alike hK, hD9⟩, hS.F ht⟩) hS.2.2 d_Model_isGood_23

def m_Model_isBlank_r (b : Int32) : Int32 := if b = ((10 : Int32)) then 1 else if b = ((32 : Int32)) then 1 else if b = ((59 : Int32)) then 1 else 0
theorem m_Model_isBlank_z {b : Int32} : narrow .boolean (.int (m_Model_isBlank_r b)) = .int (m_Model_isBlank_r b) := by
  unfold m_Model_isBlank_r
  repeat' split
  all_goals first | rfl | rfl | decide
set_option maxHeartbeats 4000000 in
set_option maxRecDepth 100000 in
theorem c_Model_isBlank (l : Launch) (dC : Nat → ClassId) (dI : Nat → Nat → Nat) (sz : Nat) (b : Int32)  : Met l y_Model_isBlank w_Model_isBlank ({ frames := 0, cells := 0, slots := 0, locals := 0 }) (va_Pc [.int b] (fun U => U.heap.size = sz ∧ va_P (dC, dI) classes ([] : va_W) U.heap ∧ va_K (dC, dI) classes [] U ∧ va_D (fun _ => True) ([] : va_W))) (va_Qi (fun (r : Int32) (_ : Unit) => r = m_Model_isBlank_r b) (fun (_ : Unit) t => va_P (dC, dI) classes ([] : va_W) t.heap ∧ va_K (dC, dI) classes [] t ∧ va_D (va_A ([] : va_W) sz) ([] : va_W)) (va_A ([] : va_W) sz)) 0 0 (va_A ([] : va_W) sz) := by
  refine Met.ofW (cc := b_Model_isBlank) (maxL := 1) (ret := (some .boolean)) (by decide) rfl ?_
  intro p e s m args below meth c s₁ B hml hv
  obtain ⟨rfl, hsz, hP, hK, hD0⟩ := hv
  have hx := B.exec
  have hb := B.bytes
  have hr := B.returns
  have hts := atoms_spec (ws := w_Model_isBlank) B.pre
  have htt : ∀ w ∈ tw_T, w.before _ s = true := fun w h => hts w (List.mem_cons_of_mem _ h)
  have hown : s.vm.findClass R_Model = some m.cls := findClass_of_methodNamed B.named
  have hlocks := B.notSynchronized
  subst hsz
  have hD := hD0.self (sz := s.heap.size)
  generalize hAe : va_A ([] : va_W) s.heap.size = A at hD ⊢
  have hA : ∀ q : Nat, s.heap.size ≤ q → A q := fun q h => by rw [← hAe]; exact Or.inr h
  have hS : va_S A s.heap s.heap [] := va_S.rf
  have hP : va_P (dC, dI) classes ([] : va_W) s.heap := hP
  have hl := lv_entry ([.int b]) (n := 1) (Nat.le_of_ble_eq_true rfl)
  rw [lg_entry_eq]
  generalize (lg_sl ([.int b]) ++ List.replicate (1 - (lg_sl ([.int b])).length) Slot.unset).toArray = ls at hl ⊢
  have hl : lv_has ls 1 [(0, .int b)] := hl
  refine lv_iload_n hx hb d_Model_isBlank_0 rfl (lv_at hl 0 rfl) ?_
  refine lv_bipush (v := 10) hx hb d_Model_isBlank_1 (by decide) ?_
  refine lv_icmp_eq (tgt := 18) hx hb d_Model_isBlank_3 (by decide) (fun c_1 => ?_) (fun c_1 => ?_)
  · refine lv_iconst (v := 1) hx hb d_Model_isBlank_18 (by decide) ?_
    refine lv_goto (tgt := 23) hx hb d_Model_isBlank_19 (by decide) ?_
    have hP9 := hP.sub (ws' := []) [] rfl
    have hD9 := hD.sub (ws' := []) [] (by decide) rfl
    exact W.zret (v := 1) hx hb hr (by decide) (fun t9 ht hW => ⟨⟨1, (), rfl, by unfold m_Model_isBlank_r; simp only [if_pos c_1], by rw [ht]; exact hP9, va_K.moved hW.alike hK, hD9⟩, hS.F ht⟩) hS.2.2 d_Model_isBlank_23
  · refine lv_iload_n hx hb d_Model_isBlank_6 rfl (lv_at hl 0 rfl) ?_
    refine lv_bipush (v := 32) hx hb d_Model_isBlank_7 (by decide) ?_
    refine lv_icmp_eq (tgt := 18) hx hb d_Model_isBlank_9 (by decide) (fun c_2 => ?_) (fun c_2 => ?_)
    · refine lv_iconst (v := 1) hx hb d_Model_isBlank_18 (by decide) ?_
      refine lv_goto (tgt := 23) hx hb d_Model_isBlank_19 (by decide) ?_
      have hP9 := hP.sub (ws' := []) [] rfl
      have hD9 := hD.sub (ws' := []) [] (by decide) rfl
      exact W.zret (v := 1) hx hb hr (by decide) (fun t9 ht hW => ⟨⟨1, (), rfl, by unfold m_Model_isBlank_r; simp only [if_neg c_1, if_pos c_2], by rw [ht]; exact hP9, va_K.moved hW.alike hK, hD9⟩, hS.F ht⟩) hS.2.2 d_Model_isBlank_23
    · refine lv_iload_n hx hb d_Model_isBlank_12 rfl (lv_at hl 0 rfl) ?_
      refine lv_bipush (v := 59) hx hb d_Model_isBlank_13 (by decide) ?_
      refine lv_icmp_ne (tgt := 22) hx hb d_Model_isBlank_15 (by decide) (fun c_3 => ?_) (fun c_3 => ?_)
      · refine lv_iconst (v := 0) hx hb d_Model_isBlank_22 (by decide) ?_
        have hP9 := hP.sub (ws' := []) [] rfl
        have hD9 := hD.sub (ws' := []) [] (by decide) rfl
        exact W.zret (v := 0) hx hb hr (by decide) (fun t9 ht hW => ⟨⟨0, (), rfl, by unfold m_Model_isBlank_r; simp only [if_neg c_1, if_neg c_2, if_neg c_3], by rw [ht]; exact hP9, va_K.moved hW.alike hK, hD9⟩, hS.F ht⟩) hS.2.2 d_Model_isBlank_23
      · refine lv_iconst (v := 1) hx hb d_Model_isBlank_18 (by decide) ?_
        refine lv_goto (tgt := 23) hx hb d_Model_isBlank_19 (by decide) ?_
        have hP9 := hP.sub (ws' := []) [] rfl
        have hD9 := hD.sub (ws' := []) [] (by decide) rfl
        exact W.zret (v := 1) hx hb hr (by decide) (fun t9 ht hW => ⟨⟨1, (), rfl, by unfold m_Model_isBlank_r; simp only [if_neg c_1, if_neg c_2, if_pos c_3], by rw [ht]; exact hP9, va_K.moved hW.alike hK, hD9⟩, hS.F ht⟩) hS.2.2 d_Model_isBlank_23

def m_Model_isSingle_r (b : Int32) : Int32 := if ((m_Model_isSign_r b)) = ((0 : Int32)) then if b = ((40 : Int32)) then 1 else if b = ((41 : Int32)) then 1 else 0 else 1
theorem m_Model_isSingle_z {b : Int32} : narrow .boolean (.int (m_Model_isSingle_r b)) = .int (m_Model_isSingle_r b) := by
  unfold m_Model_isSingle_r
  repeat' split
  all_goals first | rfl | rfl | decide
set_option maxHeartbeats 4000000 in
set_option maxRecDepth 100000 in
theorem c_Model_isSingle (l : Launch) (dC : Nat → ClassId) (dI : Nat → Nat → Nat) (sz : Nat) (b : Int32)  : Met l y_Model_isSingle w_Model_isSingle ({ frames := 1, cells := 0, slots := 0, locals := 20 }) (va_Pc [.int b] (fun U => U.heap.size = sz ∧ va_P (dC, dI) classes ([] : va_W) U.heap ∧ va_K (dC, dI) classes [] U ∧ va_D (fun _ => True) ([] : va_W))) (va_Qi (fun (r : Int32) (_ : Unit) => r = m_Model_isSingle_r b) (fun (_ : Unit) t => va_P (dC, dI) classes ([] : va_W) t.heap ∧ va_K (dC, dI) classes [] t ∧ va_D (va_A ([] : va_W) sz) ([] : va_W)) (va_A ([] : va_W) sz)) 0 0 (va_A ([] : va_W) sz) := by
  refine Met.ofW (cc := b_Model_isSingle) (maxL := 1) (ret := (some .boolean)) (by decide) rfl ?_
  intro p e s m args below meth c s₁ B hml hv
  obtain ⟨rfl, hsz, hP, hK, hD0⟩ := hv
  have hx := B.exec
  have hb := B.bytes
  have hr := B.returns
  have hts := atoms_spec (ws := w_Model_isSingle) B.pre
  have htt : ∀ w ∈ tw_T, w.before _ s = true := fun w h => hts w (List.mem_cons_of_mem _ h)
  have hown : s.vm.findClass R_Model = some m.cls := findClass_of_methodNamed B.named
  have hlocks := B.notSynchronized
  subst hsz
  have hD := hD0.self (sz := s.heap.size)
  generalize hAe : va_A ([] : va_W) s.heap.size = A at hD ⊢
  have hA : ∀ q : Nat, s.heap.size ≤ q → A q := fun q h => by rw [← hAe]; exact Or.inr h
  have hS : va_S A s.heap s.heap [] := va_S.rf
  have hP : va_P (dC, dI) classes ([] : va_W) s.heap := hP
  have hl := lv_entry ([.int b]) (n := 1) (Nat.le_of_ble_eq_true rfl)
  rw [lg_entry_eq]
  generalize (lg_sl ([.int b]) ++ List.replicate (1 - (lg_sl ([.int b])).length) Slot.unset).toArray = ls at hl ⊢
  have hl : lv_has ls 1 [(0, .int b)] := hl
  refine lv_iload_n hx hb d_Model_isSingle_0 rfl (lv_at hl 0 rfl) ?_
  have hPc := hP.sub (ws' := []) [] rfl
  have hDc := hD.sub (ws' := []) [] (by decide) rfl
  have hKc := hK.sub (tys' := []) [] rfl
  have hFc := va_free (wc := []) hD hS hA [] rfl
  refine va_calli (va_runS (As := [.int b]) (rest := []) ⟨hx, hb, hml, hown, hts⟩ (c_Model_isSign l dC dI s.heap.size b) (va_cwS 1 hts (tw_GS tw_cons cw_Model_isSign lk_Model_412 st_Model_isSign ini_Model) rfl rfl rfl (by decide +kernel) ⟨Nat.le_of_ble_eq_true rfl, Nat.le_of_ble_eq_true rfl⟩) ⟨fun a U g mk q => by obtain ⟨q0, q1, qP, qK, qD⟩ := q; exact ⟨q0, q1, qP, va_K.moved (u := U) (U := U.calling g mk a) (Vm.Alike.refl U.vm) qK, qD⟩, fun U hU hW => ⟨rfl, by rw [hU], by rw [hU]; exact hPc, va_K.moved hW.alike hKc, hDc.weaken (fun _ _ _ _ => trivial)⟩⟩ rfl rfl hl.1 rfl (lv_room (Nat.le_of_ble_eq_true rfl)) d_Model_isSingle_1 ⟨Nat.le_of_ble_eq_true rfl, Nat.le_of_ble_eq_true rfl⟩) hS (fun q _ h => hFc q h) hFc (fun r9 u9 t9 H1 locs ht hvm e9 hB hz1 hk1 hS => ?_)
  obtain ⟨hP1, hK1, hD1⟩ := hB
  rw [ht] at hP1
  obtain ⟨hP, hD⟩ := va_join (wr := []) (w1 := []) hP hD [] [] rfl rfl (by decide) (by decide) hk1 hFc hP1 hD1
  subst e9
  clear hP1 hD1 hK1 hvm hz1 hk1 hFc hKc hDc hPc
  subst ht
  generalize t9.heap = H at hP hS ⊢
  have hP : va_P (dC, dI) classes [] H := hP
  have hD : va_D A [] := hD
  refine lv_if_ne (tgt := 19) hx hb d_Model_isSingle_4 (by decide) (fun c_1 => ?_) (fun c_1 => ?_)
  · refine lv_iconst (v := 1) hx hb d_Model_isSingle_19 (by decide) ?_
    refine lv_goto (tgt := 24) hx hb d_Model_isSingle_20 (by decide) ?_
    have hP9 := hP.sub (ws' := []) [] rfl
    have hD9 := hD.sub (ws' := []) [] (by decide) rfl
    exact W.zret (v := 1) hx hb hr (by decide) (fun t9 ht hW => ⟨⟨1, (), rfl, by unfold m_Model_isSingle_r; simp only [if_neg c_1], by rw [ht]; exact hP9, va_K.moved hW.alike hK, hD9⟩, hS.F ht⟩) hS.2.2 d_Model_isSingle_24
  · refine lv_iload_n hx hb d_Model_isSingle_7 rfl (lv_at hl 0 rfl) ?_
    refine lv_bipush (v := 40) hx hb d_Model_isSingle_8 (by decide) ?_
    refine lv_icmp_eq (tgt := 19) hx hb d_Model_isSingle_10 (by decide) (fun c_2 => ?_) (fun c_2 => ?_)
    · refine lv_iconst (v := 1) hx hb d_Model_isSingle_19 (by decide) ?_
      refine lv_goto (tgt := 24) hx hb d_Model_isSingle_20 (by decide) ?_
      have hP9 := hP.sub (ws' := []) [] rfl
      have hD9 := hD.sub (ws' := []) [] (by decide) rfl
      exact W.zret (v := 1) hx hb hr (by decide) (fun t9 ht hW => ⟨⟨1, (), rfl, by unfold m_Model_isSingle_r; simp only [if_pos c_1, if_pos c_2], by rw [ht]; exact hP9, va_K.moved hW.alike hK, hD9⟩, hS.F ht⟩) hS.2.2 d_Model_isSingle_24
    · refine lv_iload_n hx hb d_Model_isSingle_13 rfl (lv_at hl 0 rfl) ?_
      refine lv_bipush (v := 41) hx hb d_Model_isSingle_14 (by decide) ?_
      refine lv_icmp_ne (tgt := 23) hx hb d_Model_isSingle_16 (by decide) (fun c_3 => ?_) (fun c_3 => ?_)
      · refine lv_iconst (v := 0) hx hb d_Model_isSingle_23 (by decide) ?_
        have hP9 := hP.sub (ws' := []) [] rfl
        have hD9 := hD.sub (ws' := []) [] (by decide) rfl
        exact W.zret (v := 0) hx hb hr (by decide) (fun t9 ht hW => ⟨⟨0, (), rfl, by unfold m_Model_isSingle_r; simp only [if_pos c_1, if_neg c_2, if_neg c_3], by rw [ht]; exact hP9, va_K.moved hW.alike hK, hD9⟩, hS.F ht⟩) hS.2.2 d_Model_isSingle_24
      · refine lv_iconst (v := 1) hx hb d_Model_isSingle_19 (by decide) ?_
        refine lv_goto (tgt := 24) hx hb d_Model_isSingle_20 (by decide) ?_
        have hP9 := hP.sub (ws' := []) [] rfl
        have hD9 := hD.sub (ws' := []) [] (by decide) rfl
        exact W.zret (v := 1) hx hb hr (by decide) (fun t9 ht hW => ⟨⟨1, (), rfl, by unfold m_Model_isSingle_r; simp only [if_pos c_1, if_neg c_2, if_pos c_3], by rw [ht]; exact hP9, va_K.moved hW.alike hK, hD9⟩, hS.F ht⟩) hS.2.2 d_Model_isSingle_24

def m_Model_isBeyond_r (b : Int32) : Int32 := if ((1000000 : Int32)) < b then 1 else if ((-1000000 : Int32)) ≤ b then 0 else 1
theorem m_Model_isBeyond_z {b : Int32} : narrow .boolean (.int (m_Model_isBeyond_r b)) = .int (m_Model_isBeyond_r b) := by
  unfold m_Model_isBeyond_r
  repeat' split
  all_goals first | rfl | rfl | decide
set_option maxHeartbeats 4000000 in
set_option maxRecDepth 100000 in
theorem c_Model_isBeyond (l : Launch) (dC : Nat → ClassId) (dI : Nat → Nat → Nat) (sz : Nat) (b : Int32)  : Met l y_Model_isBeyond w_Model_isBeyond ({ frames := 0, cells := 0, slots := 0, locals := 0 }) (va_Pc [.int b] (fun U => U.heap.size = sz ∧ va_P (dC, dI) classes ([] : va_W) U.heap ∧ va_K (dC, dI) classes [] U ∧ va_D (fun _ => True) ([] : va_W))) (va_Qi (fun (r : Int32) (_ : Unit) => r = m_Model_isBeyond_r b) (fun (_ : Unit) t => va_P (dC, dI) classes ([] : va_W) t.heap ∧ va_K (dC, dI) classes [] t ∧ va_D (va_A ([] : va_W) sz) ([] : va_W)) (va_A ([] : va_W) sz)) 0 0 (va_A ([] : va_W) sz) := by
  refine Met.ofW (cc := b_Model_isBeyond) (maxL := 1) (ret := (some .boolean)) (by decide) rfl ?_
  intro p e s m args below meth c s₁ B hml hv
  obtain ⟨rfl, hsz, hP, hK, hD0⟩ := hv
  have hx := B.exec
  have hb := B.bytes
  have hr := B.returns
  have hts := atoms_spec (ws := w_Model_isBeyond) B.pre
  have htt : ∀ w ∈ tw_T, w.before _ s = true := fun w h => hts w (List.mem_cons_of_mem _ h)
  have hown : s.vm.findClass R_Model = some m.cls := findClass_of_methodNamed B.named
  have hlocks := B.notSynchronized
  subst hsz
  have hD := hD0.self (sz := s.heap.size)
  generalize hAe : va_A ([] : va_W) s.heap.size = A at hD ⊢
  have hA : ∀ q : Nat, s.heap.size ≤ q → A q := fun q h => by rw [← hAe]; exact Or.inr h
  have hS : va_S A s.heap s.heap [] := va_S.rf
  have hP : va_P (dC, dI) classes ([] : va_W) s.heap := hP
  have hl := lv_entry ([.int b]) (n := 1) (Nat.le_of_ble_eq_true rfl)
  rw [lg_entry_eq]
  generalize (lg_sl ([.int b]) ++ List.replicate (1 - (lg_sl ([.int b])).length) Slot.unset).toArray = ls at hl ⊢
  have hl : lv_has ls 1 [(0, .int b)] := hl
  refine lv_iload_n hx hb d_Model_isBeyond_0 rfl (lv_at hl 0 rfl) ?_
  refine lv_ldcw (v := 1000000) hx hb hown (htt _ lk_Model_833) d_Model_isBeyond_1 ?_
  refine lv_icmp_gt (tgt := 14) hx hb d_Model_isBeyond_4 (by decide) (fun c_1 => ?_) (fun c_1 => ?_)
  · refine lv_iconst (v := 1) hx hb d_Model_isBeyond_14 (by decide) ?_
    refine lv_goto (tgt := 19) hx hb d_Model_isBeyond_15 (by decide) ?_
    have hP9 := hP.sub (ws' := []) [] rfl
    have hD9 := hD.sub (ws' := []) [] (by decide) rfl
    exact W.zret (v := 1) hx hb hr (by decide) (fun t9 ht hW => ⟨⟨1, (), rfl, by unfold m_Model_isBeyond_r; simp only [if_pos c_1], by rw [ht]; exact hP9, va_K.moved hW.alike hK, hD9⟩, hS.F ht⟩) hS.2.2 d_Model_isBeyond_19
  · refine lv_iload_n hx hb d_Model_isBeyond_7 rfl (lv_at hl 0 rfl) ?_
    refine lv_ldcw (v := (-1000000)) hx hb hown (htt _ lk_Model_834) d_Model_isBeyond_8 ?_
    refine lv_icmp_ge (tgt := 18) hx hb d_Model_isBeyond_11 (by decide) (fun c_2 => ?_) (fun c_2 => ?_)
    · refine lv_iconst (v := 0) hx hb d_Model_isBeyond_18 (by decide) ?_
      have hP9 := hP.sub (ws' := []) [] rfl
      have hD9 := hD.sub (ws' := []) [] (by decide) rfl
      exact W.zret (v := 0) hx hb hr (by decide) (fun t9 ht hW => ⟨⟨0, (), rfl, by unfold m_Model_isBeyond_r; simp only [if_neg c_1, if_pos c_2], by rw [ht]; exact hP9, va_K.moved hW.alike hK, hD9⟩, hS.F ht⟩) hS.2.2 d_Model_isBeyond_19
    · refine lv_iconst (v := 1) hx hb d_Model_isBeyond_14 (by decide) ?_
      refine lv_goto (tgt := 19) hx hb d_Model_isBeyond_15 (by decide) ?_
      have hP9 := hP.sub (ws' := []) [] rfl
      have hD9 := hD.sub (ws' := []) [] (by decide) rfl
      exact W.zret (v := 1) hx hb hr (by decide) (fun t9 ht hW => ⟨⟨1, (), rfl, by unfold m_Model_isBeyond_r; simp only [if_neg c_1, if_neg c_2], by rw [ht]; exact hP9, va_K.moved hW.alike hK, hD9⟩, hS.F ht⟩) hS.2.2 d_Model_isBeyond_19

def m_Model_sign_r (a : Int64) (b : Int64) : Int32 := if ((0 : Int32)) < ((lg_cmp a 20000000)) then if ((lg_cmp a 0)) ≤ ((0 : Int32)) then (-1) else 1 else if ((0 : Int32)) ≤ ((lg_cmp a ((-20000000)))) then if ((0 : Int32)) ≤ ((lg_cmp a 0)) then if ((0 : Int32)) ≤ ((lg_cmp b 0)) then m_Long_compare_r (((a * a) * 1) + (((3 * b) * b) * 1)) 0 else m_Long_compare_r (((a * a) * 1) + (((3 * b) * b) * ((-1)))) 0 else if ((0 : Int32)) ≤ ((lg_cmp b 0)) then m_Long_compare_r (((a * a) * ((-1))) + (((3 * b) * b) * 1)) 0 else m_Long_compare_r (((a * a) * ((-1))) + (((3 * b) * b) * ((-1)))) 0 else if ((lg_cmp a 0)) ≤ ((0 : Int32)) then (-1) else 1
set_option maxHeartbeats 4000000 in
set_option maxRecDepth 100000 in
theorem c_Model_sign (l : Launch) (dC : Nat → ClassId) (dI : Nat → Nat → Nat) (sz : Nat) (a : Int64) (b : Int64)  : Met l y_Model_sign w_Model_sign ({ frames := 1, cells := 0, slots := 0, locals := 23 }) (va_Pc [.long a, .long b] (fun U => U.heap.size = sz ∧ va_P (dC, dI) classes ([] : va_W) U.heap ∧ va_K (dC, dI) classes [] U ∧ va_D (fun _ => True) ([] : va_W))) (va_Qi (fun (r : Int32) (_ : Unit) => r = m_Model_sign_r a b) (fun (_ : Unit) t => va_P (dC, dI) classes ([] : va_W) t.heap ∧ va_K (dC, dI) classes [] t ∧ va_D (va_A ([] : va_W) sz) ([] : va_W)) (va_A ([] : va_W) sz)) 0 0 (va_A ([] : va_W) sz) := by
  refine Met.ofW (cc := b_Model_sign) (maxL := 8) (ret := (some .int)) (by decide) rfl ?_
  intro p e s m args below meth c s₁ B hml hv
  obtain ⟨rfl, hsz, hP, hK, hD0⟩ := hv
  have hx := B.exec
  have hb := B.bytes
  have hr := B.returns
  have hts := atoms_spec (ws := w_Model_sign) B.pre
  have htt : ∀ w ∈ tw_T, w.before _ s = true := fun w h => hts w (List.mem_cons_of_mem _ h)
  have hown : s.vm.findClass R_Model = some m.cls := findClass_of_methodNamed B.named
  have hlocks := B.notSynchronized
  subst hsz
  have hD := hD0.self (sz := s.heap.size)
  generalize hAe : va_A ([] : va_W) s.heap.size = A at hD ⊢
  have hA : ∀ q : Nat, s.heap.size ≤ q → A q := fun q h => by rw [← hAe]; exact Or.inr h
  have hS : va_S A s.heap s.heap [] := va_S.rf
  have hP : va_P (dC, dI) classes ([] : va_W) s.heap := hP
  have hl := lv_entry ([.long a, .long b]) (n := 8) (Nat.le_of_ble_eq_true rfl)
  rw [lg_entry_eq]
  generalize (lg_sl ([.long a, .long b]) ++ List.replicate (8 - (lg_sl ([.long a, .long b])).length) Slot.unset).toArray = ls at hl ⊢
  have hl : lv_has ls 8 [(0, .long a), (2, .long b)] := hl
  refine lv_lload_n hx hb d_Model_sign_0 rfl (lv_at hl 0 rfl) ?_
  refine lv_ldc2 (v := 20000000) hx hb hown (htt _ lk_Model_801) d_Model_sign_1 ?_
  refine W.lcmp hx hb d_Model_sign_4 ?_
  refine lv_if_gt (tgt := 16) hx hb d_Model_sign_5 (by decide) (fun c_1 => ?_) (fun c_1 => ?_)
  · refine lv_lload_n hx hb d_Model_sign_16 rfl (lv_at hl 0 rfl) ?_
    refine lv_lconst (v := 0) hx hb d_Model_sign_17 (by decide) ?_
    refine W.lcmp hx hb d_Model_sign_18 ?_
    refine lv_if_le (tgt := 26) hx hb d_Model_sign_19 (by decide) (fun c_2 => ?_) (fun c_2 => ?_)
    · refine lv_iconst (v := -1) hx hb d_Model_sign_26 (by decide) ?_
      have hP9 := hP.sub (ws' := []) [] rfl
      have hD9 := hD.sub (ws' := []) [] (by decide) rfl
      exact W.iret (v := (-1)) hx hb hr (fun t9 ht hW => ⟨⟨(-1), (), rfl, by unfold m_Model_sign_r; simp only [if_pos c_1, if_pos c_2], by rw [ht]; exact hP9, va_K.moved hW.alike hK, hD9⟩, hS.F ht⟩) hS.2.2 d_Model_sign_27
    · refine lv_iconst (v := 1) hx hb d_Model_sign_22 (by decide) ?_
      refine lv_goto (tgt := 27) hx hb d_Model_sign_23 (by decide) ?_
      have hP9 := hP.sub (ws' := []) [] rfl
      have hD9 := hD.sub (ws' := []) [] (by decide) rfl
      exact W.iret (v := 1) hx hb hr (fun t9 ht hW => ⟨⟨1, (), rfl, by unfold m_Model_sign_r; simp only [if_pos c_1, if_neg c_2], by rw [ht]; exact hP9, va_K.moved hW.alike hK, hD9⟩, hS.F ht⟩) hS.2.2 d_Model_sign_27
  · refine lv_lload_n hx hb d_Model_sign_8 rfl (lv_at hl 0 rfl) ?_
    refine lv_ldc2 (v := (-20000000)) hx hb hown (htt _ lk_Model_803) d_Model_sign_9 ?_
    refine W.lcmp hx hb d_Model_sign_12 ?_
    refine lv_if_ge (tgt := 28) hx hb d_Model_sign_13 (by decide) (fun c_3 => ?_) (fun c_3 => ?_)
    · refine lv_lload_n hx hb d_Model_sign_28 rfl (lv_at hl 0 rfl) ?_
      refine lv_lload_n hx hb d_Model_sign_29 rfl (lv_at hl 0 rfl) ?_
      refine lv_lmul hx hb d_Model_sign_30 ?_
      refine lv_lload_n hx hb d_Model_sign_31 rfl (lv_at hl 0 rfl) ?_
      refine lv_lconst (v := 0) hx hb d_Model_sign_32 (by decide) ?_
      refine W.lcmp hx hb d_Model_sign_33 ?_
      refine lv_if_ge (tgt := 43) hx hb d_Model_sign_34 (by decide) (fun c_4 => ?_) (fun c_4 => ?_)
      · refine lv_lconst (v := 1) hx hb d_Model_sign_43 (by decide) ?_
        refine lv_lmul hx hb d_Model_sign_44 ?_
        refine lv_topl (fun x_5 ex_5 => ?_)
        refine lv_lstore (lv' := [(4, .long x_5), (0, .long a), (2, .long b)]) hx hb d_Model_sign_45 hl (by decide) rfl (fun ls hl => ?_)
        refine lv_ldc2 (v := 3) hx hb hown (htt _ lk_Model_7) d_Model_sign_47 ?_
        refine lv_lload_n hx hb d_Model_sign_50 rfl (lv_at hl 2 rfl) ?_
        refine lv_lmul hx hb d_Model_sign_51 ?_
        refine lv_lload_n hx hb d_Model_sign_52 rfl (lv_at hl 2 rfl) ?_
        refine lv_lmul hx hb d_Model_sign_53 ?_
        refine lv_lload_n hx hb d_Model_sign_54 rfl (lv_at hl 2 rfl) ?_
        refine lv_lconst (v := 0) hx hb d_Model_sign_55 (by decide) ?_
        refine W.lcmp hx hb d_Model_sign_56 ?_
        refine lv_if_ge (tgt := 66) hx hb d_Model_sign_57 (by decide) (fun c_6 => ?_) (fun c_6 => ?_)
        · refine lv_lconst (v := 1) hx hb d_Model_sign_66 (by decide) ?_
          refine lv_lmul hx hb d_Model_sign_67 ?_
          refine lv_topl (fun x_7 ex_7 => ?_)
          refine lv_lstore (lv' := [(6, .long x_7), (4, .long x_5), (0, .long a), (2, .long b)]) hx hb d_Model_sign_68 hl (by decide) rfl (fun ls hl => ?_)
          refine lv_lload hx hb d_Model_sign_70 (lv_at hl 1 rfl) ?_
          refine lv_lload hx hb d_Model_sign_72 (lv_at hl 0 rfl) ?_
          refine lv_ladd hx hb d_Model_sign_74 ?_
          refine lv_lconst (v := 0) hx hb d_Model_sign_75 (by decide) ?_
          have hPc := hP.sub (ws' := []) [] rfl
          have hDc := hD.sub (ws' := []) [] (by decide) rfl
          have hKc := hK.sub (tys' := []) [] rfl
          have hFc := va_free (wc := []) hD hS hA [] rfl
          refine va_calli (va_runS (As := [.long (x_5 + x_7), .long 0]) (rest := []) ⟨hx, hb, hml, hown, hts⟩ (c_Long_compare l dC dI s.heap.size (x_5 + x_7) 0) (va_cwS 2 hts (tw_GS tw_cons cw_Long_compare lk_Model_807 st_Long_compare ini_Long) rfl rfl rfl (by decide +kernel) ⟨Nat.le_of_ble_eq_true rfl, Nat.le_of_ble_eq_true rfl⟩) ⟨fun a U g mk q => by obtain ⟨q0, q1, qP, qK, qD⟩ := q; exact ⟨q0, q1, qP, va_K.moved (u := U) (U := U.calling g mk a) (Vm.Alike.refl U.vm) qK, qD⟩, fun U hU hW => ⟨rfl, by rw [hU], by rw [hU]; exact hPc, va_K.moved hW.alike hKc, hDc.weaken (fun _ _ _ _ => trivial)⟩⟩ rfl rfl hl.1 rfl (lv_room (Nat.le_of_ble_eq_true rfl)) d_Model_sign_76 ⟨Nat.le_of_ble_eq_true rfl, Nat.le_of_ble_eq_true rfl⟩) hS (fun q _ h => hFc q h) hFc (fun r9 u9 t9 H1 locs ht hvm e9 hB hz1 hk1 hS => ?_)
          obtain ⟨hP1, hK1, hD1⟩ := hB
          rw [ht] at hP1
          obtain ⟨hP, hD⟩ := va_join (wr := []) (w1 := []) hP hD [] [] rfl rfl (by decide) (by decide) hk1 hFc hP1 hD1
          subst e9
          clear hP1 hD1 hK1 hvm hz1 hk1 hFc hKc hDc hPc
          subst ht
          generalize t9.heap = H at hP hS ⊢
          have hP : va_P (dC, dI) classes [] H := hP
          have hD : va_D A [] := hD
          subst ex_5 ex_7
          have hP9 := hP.sub (ws' := []) [] rfl
          have hD9 := hD.sub (ws' := []) [] (by decide) rfl
          exact W.iret (v := m_Long_compare_r (((a * a) * 1) + (((3 * b) * b) * 1)) 0) hx hb hr (fun t9 ht hW => ⟨⟨m_Long_compare_r (((a * a) * 1) + (((3 * b) * b) * 1)) 0, (), rfl, by unfold m_Model_sign_r; simp only [if_neg c_1, if_pos c_3, if_pos c_4, if_pos c_6], by rw [ht]; exact hP9, va_K.moved hW.alike hK, hD9⟩, hS.F ht⟩) hS.2.2 d_Model_sign_79
        · refine lv_ldc2 (v := (-1)) hx hb hown (htt _ lk_Model_805) d_Model_sign_60 ?_
          refine lv_goto (tgt := 67) hx hb d_Model_sign_63 (by decide) ?_
          refine lv_lmul hx hb d_Model_sign_67 ?_
          refine lv_topl (fun x_8 ex_8 => ?_)
          refine lv_lstore (lv' := [(6, .long x_8), (4, .long x_5), (0, .long a), (2, .long b)]) hx hb d_Model_sign_68 hl (by decide) rfl (fun ls hl => ?_)
          refine lv_lload hx hb d_Model_sign_70 (lv_at hl 1 rfl) ?_
          refine lv_lload hx hb d_Model_sign_72 (lv_at hl 0 rfl) ?_
          refine lv_ladd hx hb d_Model_sign_74 ?_
          refine lv_lconst (v := 0) hx hb d_Model_sign_75 (by decide) ?_
          have hPc := hP.sub (ws' := []) [] rfl
          have hDc := hD.sub (ws' := []) [] (by decide) rfl
          have hKc := hK.sub (tys' := []) [] rfl
          have hFc := va_free (wc := []) hD hS hA [] rfl
          refine va_calli (va_runS (As := [.long (x_5 + x_8), .long 0]) (rest := []) ⟨hx, hb, hml, hown, hts⟩ (c_Long_compare l dC dI s.heap.size (x_5 + x_8) 0) (va_cwS 2 hts (tw_GS tw_cons cw_Long_compare lk_Model_807 st_Long_compare ini_Long) rfl rfl rfl (by decide +kernel) ⟨Nat.le_of_ble_eq_true rfl, Nat.le_of_ble_eq_true rfl⟩) ⟨fun a U g mk q => by obtain ⟨q0, q1, qP, qK, qD⟩ := q; exact ⟨q0, q1, qP, va_K.moved (u := U) (U := U.calling g mk a) (Vm.Alike.refl U.vm) qK, qD⟩, fun U hU hW => ⟨rfl, by rw [hU], by rw [hU]; exact hPc, va_K.moved hW.alike hKc, hDc.weaken (fun _ _ _ _ => trivial)⟩⟩ rfl rfl hl.1 rfl (lv_room (Nat.le_of_ble_eq_true rfl)) d_Model_sign_76 ⟨Nat.le_of_ble_eq_true rfl, Nat.le_of_ble_eq_true rfl⟩) hS (fun q _ h => hFc q h) hFc (fun r9 u9 t9 H1 locs ht hvm e9 hB hz1 hk1 hS => ?_)
          obtain ⟨hP1, hK1, hD1⟩ := hB
          rw [ht] at hP1
          obtain ⟨hP, hD⟩ := va_join (wr := []) (w1 := []) hP hD [] [] rfl rfl (by decide) (by decide) hk1 hFc hP1 hD1
          subst e9
          clear hP1 hD1 hK1 hvm hz1 hk1 hFc hKc hDc hPc
          subst ht
          generalize t9.heap = H at hP hS ⊢
          have hP : va_P (dC, dI) classes [] H := hP
          have hD : va_D A [] := hD
          subst ex_5 ex_8
          have hP9 := hP.sub (ws' := []) [] rfl
          have hD9 := hD.sub (ws' := []) [] (by decide) rfl
          exact W.iret (v := m_Long_compare_r (((a * a) * 1) + (((3 * b) * b) * ((-1)))) 0) hx hb hr (fun t9 ht hW => ⟨⟨m_Long_compare_r (((a * a) * 1) + (((3 * b) * b) * ((-1)))) 0, (), rfl, by unfold m_Model_sign_r; simp only [if_neg c_1, if_pos c_3, if_pos c_4, if_neg c_6], by rw [ht]; exact hP9, va_K.moved hW.alike hK, hD9⟩, hS.F ht⟩) hS.2.2 d_Model_sign_79
      · refine lv_ldc2 (v := (-1)) hx hb hown (htt _ lk_Model_805) d_Model_sign_37 ?_
        refine lv_goto (tgt := 44) hx hb d_Model_sign_40 (by decide) ?_
        refine lv_lmul hx hb d_Model_sign_44 ?_
        refine lv_topl (fun x_9 ex_9 => ?_)
        refine lv_lstore (lv' := [(4, .long x_9), (0, .long a), (2, .long b)]) hx hb d_Model_sign_45 hl (by decide) rfl (fun ls hl => ?_)
        refine lv_ldc2 (v := 3) hx hb hown (htt _ lk_Model_7) d_Model_sign_47 ?_
        refine lv_lload_n hx hb d_Model_sign_50 rfl (lv_at hl 2 rfl) ?_
        refine lv_lmul hx hb d_Model_sign_51 ?_
        refine lv_lload_n hx hb d_Model_sign_52 rfl (lv_at hl 2 rfl) ?_
        refine lv_lmul hx hb d_Model_sign_53 ?_
        refine lv_lload_n hx hb d_Model_sign_54 rfl (lv_at hl 2 rfl) ?_
        refine lv_lconst (v := 0) hx hb d_Model_sign_55 (by decide) ?_
        refine W.lcmp hx hb d_Model_sign_56 ?_
        refine lv_if_ge (tgt := 66) hx hb d_Model_sign_57 (by decide) (fun c_10 => ?_) (fun c_10 => ?_)
        · refine lv_lconst (v := 1) hx hb d_Model_sign_66 (by decide) ?_
          refine lv_lmul hx hb d_Model_sign_67 ?_
          refine lv_topl (fun x_11 ex_11 => ?_)
          refine lv_lstore (lv' := [(6, .long x_11), (4, .long x_9), (0, .long a), (2, .long b)]) hx hb d_Model_sign_68 hl (by decide) rfl (fun ls hl => ?_)
          refine lv_lload hx hb d_Model_sign_70 (lv_at hl 1 rfl) ?_
          refine lv_lload hx hb d_Model_sign_72 (lv_at hl 0 rfl) ?_
          refine lv_ladd hx hb d_Model_sign_74 ?_
          refine lv_lconst (v := 0) hx hb d_Model_sign_75 (by decide) ?_
          have hPc := hP.sub (ws' := []) [] rfl
          have hDc := hD.sub (ws' := []) [] (by decide) rfl
          have hKc := hK.sub (tys' := []) [] rfl
          have hFc := va_free (wc := []) hD hS hA [] rfl
          refine va_calli (va_runS (As := [.long (x_9 + x_11), .long 0]) (rest := []) ⟨hx, hb, hml, hown, hts⟩ (c_Long_compare l dC dI s.heap.size (x_9 + x_11) 0) (va_cwS 2 hts (tw_GS tw_cons cw_Long_compare lk_Model_807 st_Long_compare ini_Long) rfl rfl rfl (by decide +kernel) ⟨Nat.le_of_ble_eq_true rfl, Nat.le_of_ble_eq_true rfl⟩) ⟨fun a U g mk q => by obtain ⟨q0, q1, qP, qK, qD⟩ := q; exact ⟨q0, q1, qP, va_K.moved (u := U) (U := U.calling g mk a) (Vm.Alike.refl U.vm) qK, qD⟩, fun U hU hW => ⟨rfl, by rw [hU], by rw [hU]; exact hPc, va_K.moved hW.alike hKc, hDc.weaken (fun _ _ _ _ => trivial)⟩⟩ rfl rfl hl.1 rfl (lv_room (Nat.le_of_ble_eq_true rfl)) d_Model_sign_76 ⟨Nat.le_of_ble_eq_true rfl, Nat.le_of_ble_eq_true rfl⟩) hS (fun q _ h => hFc q h) hFc (fun r9 u9 t9 H1 locs ht hvm e9 hB hz1 hk1 hS => ?_)
          obtain ⟨hP1, hK1, hD1⟩ := hB
          rw [ht] at hP1
          obtain ⟨hP, hD⟩ := va_join (wr := []) (w1 := []) hP hD [] [] rfl rfl (by decide) (by decide) hk1 hFc hP1 hD1
          subst e9
          clear hP1 hD1 hK1 hvm hz1 hk1 hFc hKc hDc hPc
          subst ht
          generalize t9.heap = H at hP hS ⊢
          have hP : va_P (dC, dI) classes [] H := hP
          have hD : va_D A [] := hD
          subst ex_9 ex_11
          have hP9 := hP.sub (ws' := []) [] rfl
          have hD9 := hD.sub (ws' := []) [] (by decide) rfl
          exact W.iret (v := m_Long_compare_r (((a * a) * ((-1))) + (((3 * b) * b) * 1)) 0) hx hb hr (fun t9 ht hW => ⟨⟨m_Long_compare_r (((a * a) * ((-1))) + (((3 * b) * b) * 1)) 0, (), rfl, by unfold m_Model_sign_r; simp only [if_neg c_1, if_pos c_3, if_neg c_4, if_pos c_10], by rw [ht]; exact hP9, va_K.moved hW.alike hK, hD9⟩, hS.F ht⟩) hS.2.2 d_Model_sign_79
        · refine lv_ldc2 (v := (-1)) hx hb hown (htt _ lk_Model_805) d_Model_sign_60 ?_
          refine lv_goto (tgt := 67) hx hb d_Model_sign_63 (by decide) ?_
          refine lv_lmul hx hb d_Model_sign_67 ?_
          refine lv_topl (fun x_12 ex_12 => ?_)
          refine lv_lstore (lv' := [(6, .long x_12), (4, .long x_9), (0, .long a), (2, .long b)]) hx hb d_Model_sign_68 hl (by decide) rfl (fun ls hl => ?_)
          refine lv_lload hx hb d_Model_sign_70 (lv_at hl 1 rfl) ?_
          refine lv_lload hx hb d_Model_sign_72 (lv_at hl 0 rfl) ?_
          refine lv_ladd hx hb d_Model_sign_74 ?_
          refine lv_lconst (v := 0) hx hb d_Model_sign_75 (by decide) ?_
          have hPc := hP.sub (ws' := []) [] rfl
          have hDc := hD.sub (ws' := []) [] (by decide) rfl
          have hKc := hK.sub (tys' := []) [] rfl
          have hFc := va_free (wc := []) hD hS hA [] rfl
          refine va_calli (va_runS (As := [.long (x_9 + x_12), .long 0]) (rest := []) ⟨hx, hb, hml, hown, hts⟩ (c_Long_compare l dC dI s.heap.size (x_9 + x_12) 0) (va_cwS 2 hts (tw_GS tw_cons cw_Long_compare lk_Model_807 st_Long_compare ini_Long) rfl rfl rfl (by decide +kernel) ⟨Nat.le_of_ble_eq_true rfl, Nat.le_of_ble_eq_true rfl⟩) ⟨fun a U g mk q => by obtain ⟨q0, q1, qP, qK, qD⟩ := q; exact ⟨q0, q1, qP, va_K.moved (u := U) (U := U.calling g mk a) (Vm.Alike.refl U.vm) qK, qD⟩, fun U hU hW => ⟨rfl, by rw [hU], by rw [hU]; exact hPc, va_K.moved hW.alike hKc, hDc.weaken (fun _ _ _ _ => trivial)⟩⟩ rfl rfl hl.1 rfl (lv_room (Nat.le_of_ble_eq_true rfl)) d_Model_sign_76 ⟨Nat.le_of_ble_eq_true rfl, Nat.le_of_ble_eq_true rfl⟩) hS (fun q _ h => hFc q h) hFc (fun r9 u9 t9 H1 locs ht hvm e9 hB hz1 hk1 hS => ?_)
          obtain ⟨hP1, hK1, hD1⟩ := hB
          rw [ht] at hP1
          obtain ⟨hP, hD⟩ := va_join (wr := []) (w1 := []) hP hD [] [] rfl rfl (by decide) (by decide) hk1 hFc hP1 hD1
          subst e9
          clear hP1 hD1 hK1 hvm hz1 hk1 hFc hKc hDc hPc
          subst ht
          generalize t9.heap = H at hP hS ⊢
          have hP : va_P (dC, dI) classes [] H := hP
          have hD : va_D A [] := hD
          subst ex_9 ex_12
          have hP9 := hP.sub (ws' := []) [] rfl
          have hD9 := hD.sub (ws' := []) [] (by decide) rfl
          exact W.iret (v := m_Long_compare_r (((a * a) * ((-1))) + (((3 * b) * b) * ((-1)))) 0) hx hb hr (fun t9 ht hW => ⟨⟨m_Long_compare_r (((a * a) * ((-1))) + (((3 * b) * b) * ((-1)))) 0, (), rfl, by unfold m_Model_sign_r; simp only [if_neg c_1, if_pos c_3, if_neg c_4, if_neg c_10], by rw [ht]; exact hP9, va_K.moved hW.alike hK, hD9⟩, hS.F ht⟩) hS.2.2 d_Model_sign_79
    · refine lv_lload_n hx hb d_Model_sign_16 rfl (lv_at hl 0 rfl) ?_
      refine lv_lconst (v := 0) hx hb d_Model_sign_17 (by decide) ?_
      refine W.lcmp hx hb d_Model_sign_18 ?_
      refine lv_if_le (tgt := 26) hx hb d_Model_sign_19 (by decide) (fun c_13 => ?_) (fun c_13 => ?_)
      · refine lv_iconst (v := -1) hx hb d_Model_sign_26 (by decide) ?_
        have hP9 := hP.sub (ws' := []) [] rfl
        have hD9 := hD.sub (ws' := []) [] (by decide) rfl
        exact W.iret (v := (-1)) hx hb hr (fun t9 ht hW => ⟨⟨(-1), (), rfl, by unfold m_Model_sign_r; simp only [if_neg c_1, if_neg c_3, if_pos c_13], by rw [ht]; exact hP9, va_K.moved hW.alike hK, hD9⟩, hS.F ht⟩) hS.2.2 d_Model_sign_27
      · refine lv_iconst (v := 1) hx hb d_Model_sign_22 (by decide) ?_
        refine lv_goto (tgt := 27) hx hb d_Model_sign_23 (by decide) ?_
        have hP9 := hP.sub (ws' := []) [] rfl
        have hD9 := hD.sub (ws' := []) [] (by decide) rfl
        exact W.iret (v := 1) hx hb hr (fun t9 ht hW => ⟨⟨1, (), rfl, by unfold m_Model_sign_r; simp only [if_neg c_1, if_neg c_3, if_neg c_13], by rw [ht]; exact hP9, va_K.moved hW.alike hK, hD9⟩, hS.F ht⟩) hS.2.2 d_Model_sign_27

def m_Reader_isSign_r (b : Int32) : Int32 := if b = ((43 : Int32)) then 1 else if b = ((45 : Int32)) then 1 else if b = ((42 : Int32)) then 1 else if b = ((47 : Int32)) then 1 else if b = ((61 : Int32)) then 1 else if b = ((60 : Int32)) then 1 else if b = ((62 : Int32)) then 1 else 0
theorem m_Reader_isSign_z {b : Int32} : narrow .boolean (.int (m_Reader_isSign_r b)) = .int (m_Reader_isSign_r b) := by
  unfold m_Reader_isSign_r
  repeat' split
  all_goals first | rfl | rfl | decide
set_option maxHeartbeats 4000000 in
set_option maxRecDepth 100000 in
theorem c_Reader_isSign (l : Launch) (dC : Nat → ClassId) (dI : Nat → Nat → Nat) (sz : Nat) (b : Int32)  : Met l y_Reader_isSign w_Reader_isSign ({ frames := 0, cells := 0, slots := 0, locals := 0 }) (va_Pc [.int b] (fun U => U.heap.size = sz ∧ va_P (dC, dI) classes ([] : va_W) U.heap ∧ va_K (dC, dI) classes [] U ∧ va_D (fun _ => True) ([] : va_W))) (va_Qi (fun (r : Int32) (_ : Unit) => r = m_Reader_isSign_r b) (fun (_ : Unit) t => va_P (dC, dI) classes ([] : va_W) t.heap ∧ va_K (dC, dI) classes [] t ∧ va_D (va_A ([] : va_W) sz) ([] : va_W)) (va_A ([] : va_W) sz)) 0 0 (va_A ([] : va_W) sz) := by
  refine Met.ofW (cc := b_Reader_isSign) (maxL := 1) (ret := (some .boolean)) (by decide) rfl ?_
  intro p e s m args below meth c s₁ B hml hv
  obtain ⟨rfl, hsz, hP, hK, hD0⟩ := hv
  have hx := B.exec
  have hb := B.bytes
  have hr := B.returns
  have hts := atoms_spec (ws := w_Reader_isSign) B.pre
  have htt : ∀ w ∈ tw_T, w.before _ s = true := fun w h => hts w (List.mem_cons_of_mem _ h)
  have hown : s.vm.findClass R_Reader = some m.cls := findClass_of_methodNamed B.named
  have hlocks := B.notSynchronized
  subst hsz
  have hD := hD0.self (sz := s.heap.size)
  generalize hAe : va_A ([] : va_W) s.heap.size = A at hD ⊢
  have hA : ∀ q : Nat, s.heap.size ≤ q → A q := fun q h => by rw [← hAe]; exact Or.inr h
  have hS : va_S A s.heap s.heap [] := va_S.rf
  have hP : va_P (dC, dI) classes ([] : va_W) s.heap := hP
  have hl := lv_entry ([.int b]) (n := 1) (Nat.le_of_ble_eq_true rfl)
  rw [lg_entry_eq]
  generalize (lg_sl ([.int b]) ++ List.replicate (1 - (lg_sl ([.int b])).length) Slot.unset).toArray = ls at hl ⊢
  have hl : lv_has ls 1 [(0, .int b)] := hl
  refine lv_iload_n hx hb d_Reader_isSign_0 rfl (lv_at hl 0 rfl) ?_
  refine lv_bipush (v := 43) hx hb d_Reader_isSign_1 (by decide) ?_
  refine lv_icmp_eq (tgt := 42) hx hb d_Reader_isSign_3 (by decide) (fun c_1 => ?_) (fun c_1 => ?_)
  · refine lv_iconst (v := 1) hx hb d_Reader_isSign_42 (by decide) ?_
    refine lv_goto (tgt := 47) hx hb d_Reader_isSign_43 (by decide) ?_
    have hP9 := hP.sub (ws' := []) [] rfl
    have hD9 := hD.sub (ws' := []) [] (by decide) rfl
    exact W.zret (v := 1) hx hb hr (by decide) (fun t9 ht hW => ⟨⟨1, (), rfl, by unfold m_Reader_isSign_r; simp only [if_pos c_1], by rw [ht]; exact hP9, va_K.moved hW.alike hK, hD9⟩, hS.F ht⟩) hS.2.2 d_Reader_isSign_47
  · refine lv_iload_n hx hb d_Reader_isSign_6 rfl (lv_at hl 0 rfl) ?_
    refine lv_bipush (v := 45) hx hb d_Reader_isSign_7 (by decide) ?_
    refine lv_icmp_eq (tgt := 42) hx hb d_Reader_isSign_9 (by decide) (fun c_2 => ?_) (fun c_2 => ?_)
    · refine lv_iconst (v := 1) hx hb d_Reader_isSign_42 (by decide) ?_
      refine lv_goto (tgt := 47) hx hb d_Reader_isSign_43 (by decide) ?_
      have hP9 := hP.sub (ws' := []) [] rfl
      have hD9 := hD.sub (ws' := []) [] (by decide) rfl
      exact W.zret (v := 1) hx hb hr (by decide) (fun t9 ht hW => ⟨⟨1, (), rfl, by unfold m_Reader_isSign_r; simp only [if_neg c_1, if_pos c_2], by rw [ht]; exact hP9, va_K.moved hW.alike hK, hD9⟩, hS.F ht⟩) hS.2.2 d_Reader_isSign_47
    · refine lv_iload_n hx hb d_Reader_isSign_12 rfl (lv_at hl 0 rfl) ?_
      refine lv_bipush (v := 42) hx hb d_Reader_isSign_13 (by decide) ?_
      refine lv_icmp_eq (tgt := 42) hx hb d_Reader_isSign_15 (by decide) (fun c_3 => ?_) (fun c_3 => ?_)
      · refine lv_iconst (v := 1) hx hb d_Reader_isSign_42 (by decide) ?_
        refine lv_goto (tgt := 47) hx hb d_Reader_isSign_43 (by decide) ?_
        have hP9 := hP.sub (ws' := []) [] rfl
        have hD9 := hD.sub (ws' := []) [] (by decide) rfl
        exact W.zret (v := 1) hx hb hr (by decide) (fun t9 ht hW => ⟨⟨1, (), rfl, by unfold m_Reader_isSign_r; simp only [if_neg c_1, if_neg c_2, if_pos c_3], by rw [ht]; exact hP9, va_K.moved hW.alike hK, hD9⟩, hS.F ht⟩) hS.2.2 d_Reader_isSign_47
      · refine lv_iload_n hx hb d_Reader_isSign_18 rfl (lv_at hl 0 rfl) ?_
        refine lv_bipush (v := 47) hx hb d_Reader_isSign_19 (by decide) ?_
        refine lv_icmp_eq (tgt := 42) hx hb d_Reader_isSign_21 (by decide) (fun c_4 => ?_) (fun c_4 => ?_)
        · refine lv_iconst (v := 1) hx hb d_Reader_isSign_42 (by decide) ?_
          refine lv_goto (tgt := 47) hx hb d_Reader_isSign_43 (by decide) ?_
          have hP9 := hP.sub (ws' := []) [] rfl
          have hD9 := hD.sub (ws' := []) [] (by decide) rfl
          exact W.zret (v := 1) hx hb hr (by decide) (fun t9 ht hW => ⟨⟨1, (), rfl, by unfold m_Reader_isSign_r; simp only [if_neg c_1, if_neg c_2, if_neg c_3, if_pos c_4], by rw [ht]; exact hP9, va_K.moved hW.alike hK, hD9⟩, hS.F ht⟩) hS.2.2 d_Reader_isSign_47
        · refine lv_iload_n hx hb d_Reader_isSign_24 rfl (lv_at hl 0 rfl) ?_
          refine lv_bipush (v := 61) hx hb d_Reader_isSign_25 (by decide) ?_
          refine lv_icmp_eq (tgt := 42) hx hb d_Reader_isSign_27 (by decide) (fun c_5 => ?_) (fun c_5 => ?_)
          · refine lv_iconst (v := 1) hx hb d_Reader_isSign_42 (by decide) ?_
            refine lv_goto (tgt := 47) hx hb d_Reader_isSign_43 (by decide) ?_
            have hP9 := hP.sub (ws' := []) [] rfl
            have hD9 := hD.sub (ws' := []) [] (by decide) rfl
            exact W.zret (v := 1) hx hb hr (by decide) (fun t9 ht hW => ⟨⟨1, (), rfl, by unfold m_Reader_isSign_r; simp only [if_neg c_1, if_neg c_2, if_neg c_3, if_neg c_4, if_pos c_5], by rw [ht]; exact hP9, va_K.moved hW.alike hK, hD9⟩, hS.F ht⟩) hS.2.2 d_Reader_isSign_47
          · refine lv_iload_n hx hb d_Reader_isSign_30 rfl (lv_at hl 0 rfl) ?_
            refine lv_bipush (v := 60) hx hb d_Reader_isSign_31 (by decide) ?_
            refine lv_icmp_eq (tgt := 42) hx hb d_Reader_isSign_33 (by decide) (fun c_6 => ?_) (fun c_6 => ?_)
            · refine lv_iconst (v := 1) hx hb d_Reader_isSign_42 (by decide) ?_
              refine lv_goto (tgt := 47) hx hb d_Reader_isSign_43 (by decide) ?_
              have hP9 := hP.sub (ws' := []) [] rfl
              have hD9 := hD.sub (ws' := []) [] (by decide) rfl
              exact W.zret (v := 1) hx hb hr (by decide) (fun t9 ht hW => ⟨⟨1, (), rfl, by unfold m_Reader_isSign_r; simp only [if_neg c_1, if_neg c_2, if_neg c_3, if_neg c_4, if_neg c_5, if_pos c_6], by rw [ht]; exact hP9, va_K.moved hW.alike hK, hD9⟩, hS.F ht⟩) hS.2.2 d_Reader_isSign_47
            · refine lv_iload_n hx hb d_Reader_isSign_36 rfl (lv_at hl 0 rfl) ?_
              refine lv_bipush (v := 62) hx hb d_Reader_isSign_37 (by decide) ?_
              refine lv_icmp_ne (tgt := 46) hx hb d_Reader_isSign_39 (by decide) (fun c_7 => ?_) (fun c_7 => ?_)
              · refine lv_iconst (v := 0) hx hb d_Reader_isSign_46 (by decide) ?_
                have hP9 := hP.sub (ws' := []) [] rfl
                have hD9 := hD.sub (ws' := []) [] (by decide) rfl
                exact W.zret (v := 0) hx hb hr (by decide) (fun t9 ht hW => ⟨⟨0, (), rfl, by unfold m_Reader_isSign_r; simp only [if_neg c_1, if_neg c_2, if_neg c_3, if_neg c_4, if_neg c_5, if_neg c_6, if_neg c_7], by rw [ht]; exact hP9, va_K.moved hW.alike hK, hD9⟩, hS.F ht⟩) hS.2.2 d_Reader_isSign_47
              · refine lv_iconst (v := 1) hx hb d_Reader_isSign_42 (by decide) ?_
                refine lv_goto (tgt := 47) hx hb d_Reader_isSign_43 (by decide) ?_
                have hP9 := hP.sub (ws' := []) [] rfl
                have hD9 := hD.sub (ws' := []) [] (by decide) rfl
                exact W.zret (v := 1) hx hb hr (by decide) (fun t9 ht hW => ⟨⟨1, (), rfl, by unfold m_Reader_isSign_r; simp only [if_neg c_1, if_neg c_2, if_neg c_3, if_neg c_4, if_neg c_5, if_neg c_6, if_pos c_7], by rw [ht]; exact hP9, va_K.moved hW.alike hK, hD9⟩, hS.F ht⟩) hS.2.2 d_Reader_isSign_47

def m_Reader_isDigit_r (b : Int32) : Int32 := if b < ((48 : Int32)) then 0 else if ((57 : Int32)) < b then 0 else 1
theorem m_Reader_isDigit_z {b : Int32} : narrow .boolean (.int (m_Reader_isDigit_r b)) = .int (m_Reader_isDigit_r b) := by
  unfold m_Reader_isDigit_r
  repeat' split
  all_goals first | rfl | rfl | decide
set_option maxHeartbeats 4000000 in
set_option maxRecDepth 100000 in
theorem c_Reader_isDigit (l : Launch) (dC : Nat → ClassId) (dI : Nat → Nat → Nat) (sz : Nat) (b : Int32)  : Met l y_Reader_isDigit w_Reader_isDigit ({ frames := 0, cells := 0, slots := 0, locals := 0 }) (va_Pc [.int b] (fun U => U.heap.size = sz ∧ va_P (dC, dI) classes ([] : va_W) U.heap ∧ va_K (dC, dI) classes [] U ∧ va_D (fun _ => True) ([] : va_W))) (va_Qi (fun (r : Int32) (_ : Unit) => r = m_Reader_isDigit_r b) (fun (_ : Unit) t => va_P (dC, dI) classes ([] : va_W) t.heap ∧ va_K (dC, dI) classes [] t ∧ va_D (va_A ([] : va_W) sz) ([] : va_W)) (va_A ([] : va_W) sz)) 0 0 (va_A ([] : va_W) sz) := by
  refine Met.ofW (cc := b_Reader_isDigit) (maxL := 1) (ret := (some .boolean)) (by decide) rfl ?_
  intro p e s m args below meth c s₁ B hml hv
  obtain ⟨rfl, hsz, hP, hK, hD0⟩ := hv
  have hx := B.exec
  have hb := B.bytes
  have hr := B.returns
  have hts := atoms_spec (ws := w_Reader_isDigit) B.pre
  have htt : ∀ w ∈ tw_T, w.before _ s = true := fun w h => hts w (List.mem_cons_of_mem _ h)
  have hown : s.vm.findClass R_Reader = some m.cls := findClass_of_methodNamed B.named
  have hlocks := B.notSynchronized
  subst hsz
  have hD := hD0.self (sz := s.heap.size)
  generalize hAe : va_A ([] : va_W) s.heap.size = A at hD ⊢
  have hA : ∀ q : Nat, s.heap.size ≤ q → A q := fun q h => by rw [← hAe]; exact Or.inr h
  have hS : va_S A s.heap s.heap [] := va_S.rf
  have hP : va_P (dC, dI) classes ([] : va_W) s.heap := hP
  have hl := lv_entry ([.int b]) (n := 1) (Nat.le_of_ble_eq_true rfl)
  rw [lg_entry_eq]
  generalize (lg_sl ([.int b]) ++ List.replicate (1 - (lg_sl ([.int b])).length) Slot.unset).toArray = ls at hl ⊢
  have hl : lv_has ls 1 [(0, .int b)] := hl
  refine lv_iload_n hx hb d_Reader_isDigit_0 rfl (lv_at hl 0 rfl) ?_
  refine lv_bipush (v := 48) hx hb d_Reader_isDigit_1 (by decide) ?_
  refine lv_icmp_lt (tgt := 16) hx hb d_Reader_isDigit_3 (by decide) (fun c_1 => ?_) (fun c_1 => ?_)
  · refine lv_iconst (v := 0) hx hb d_Reader_isDigit_16 (by decide) ?_
    have hP9 := hP.sub (ws' := []) [] rfl
    have hD9 := hD.sub (ws' := []) [] (by decide) rfl
    exact W.zret (v := 0) hx hb hr (by decide) (fun t9 ht hW => ⟨⟨0, (), rfl, by unfold m_Reader_isDigit_r; simp only [if_pos c_1], by rw [ht]; exact hP9, va_K.moved hW.alike hK, hD9⟩, hS.F ht⟩) hS.2.2 d_Reader_isDigit_17
  · refine lv_iload_n hx hb d_Reader_isDigit_6 rfl (lv_at hl 0 rfl) ?_
    refine lv_bipush (v := 57) hx hb d_Reader_isDigit_7 (by decide) ?_
    refine lv_icmp_gt (tgt := 16) hx hb d_Reader_isDigit_9 (by decide) (fun c_2 => ?_) (fun c_2 => ?_)
    · refine lv_iconst (v := 0) hx hb d_Reader_isDigit_16 (by decide) ?_
      have hP9 := hP.sub (ws' := []) [] rfl
      have hD9 := hD.sub (ws' := []) [] (by decide) rfl
      exact W.zret (v := 0) hx hb hr (by decide) (fun t9 ht hW => ⟨⟨0, (), rfl, by unfold m_Reader_isDigit_r; simp only [if_neg c_1, if_pos c_2], by rw [ht]; exact hP9, va_K.moved hW.alike hK, hD9⟩, hS.F ht⟩) hS.2.2 d_Reader_isDigit_17
    · refine lv_iconst (v := 1) hx hb d_Reader_isDigit_12 (by decide) ?_
      refine lv_goto (tgt := 17) hx hb d_Reader_isDigit_13 (by decide) ?_
      have hP9 := hP.sub (ws' := []) [] rfl
      have hD9 := hD.sub (ws' := []) [] (by decide) rfl
      exact W.zret (v := 1) hx hb hr (by decide) (fun t9 ht hW => ⟨⟨1, (), rfl, by unfold m_Reader_isDigit_r; simp only [if_neg c_1, if_neg c_2], by rw [ht]; exact hP9, va_K.moved hW.alike hK, hD9⟩, hS.F ht⟩) hS.2.2 d_Reader_isDigit_17

def m_Reader_isAlone_r (b : Int32) : Int32 := if b = ((91 : Int32)) then 1 else if b = ((93 : Int32)) then 1 else if b = ((40 : Int32)) then 1 else if b = ((41 : Int32)) then 1 else if ((m_Reader_isSign_r b)) = ((0 : Int32)) then 0 else if b = ((45 : Int32)) then 0 else 1
theorem m_Reader_isAlone_z {b : Int32} : narrow .boolean (.int (m_Reader_isAlone_r b)) = .int (m_Reader_isAlone_r b) := by
  unfold m_Reader_isAlone_r
  repeat' split
  all_goals first | rfl | rfl | decide
set_option maxHeartbeats 4000000 in
set_option maxRecDepth 100000 in
theorem c_Reader_isAlone (l : Launch) (dC : Nat → ClassId) (dI : Nat → Nat → Nat) (sz : Nat) (b : Int32)  : Met l y_Reader_isAlone w_Reader_isAlone ({ frames := 1, cells := 0, slots := 0, locals := 20 }) (va_Pc [.int b] (fun U => U.heap.size = sz ∧ va_P (dC, dI) classes ([] : va_W) U.heap ∧ va_K (dC, dI) classes [] U ∧ va_D (fun _ => True) ([] : va_W))) (va_Qi (fun (r : Int32) (_ : Unit) => r = m_Reader_isAlone_r b) (fun (_ : Unit) t => va_P (dC, dI) classes ([] : va_W) t.heap ∧ va_K (dC, dI) classes [] t ∧ va_D (va_A ([] : va_W) sz) ([] : va_W)) (va_A ([] : va_W) sz)) 0 0 (va_A ([] : va_W) sz) := by
  refine Met.ofW (cc := b_Reader_isAlone) (maxL := 1) (ret := (some .boolean)) (by decide) rfl ?_
  intro p e s m args below meth c s₁ B hml hv
  obtain ⟨rfl, hsz, hP, hK, hD0⟩ := hv
  have hx := B.exec
  have hb := B.bytes
  have hr := B.returns
  have hts := atoms_spec (ws := w_Reader_isAlone) B.pre
  have htt : ∀ w ∈ tw_T, w.before _ s = true := fun w h => hts w (List.mem_cons_of_mem _ h)
  have hown : s.vm.findClass R_Reader = some m.cls := findClass_of_methodNamed B.named
  have hlocks := B.notSynchronized
  subst hsz
  have hD := hD0.self (sz := s.heap.size)
  generalize hAe : va_A ([] : va_W) s.heap.size = A at hD ⊢
  have hA : ∀ q : Nat, s.heap.size ≤ q → A q := fun q h => by rw [← hAe]; exact Or.inr h
  have hS : va_S A s.heap s.heap [] := va_S.rf
  have hP : va_P (dC, dI) classes ([] : va_W) s.heap := hP
  have hl := lv_entry ([.int b]) (n := 1) (Nat.le_of_ble_eq_true rfl)
  rw [lg_entry_eq]
  generalize (lg_sl ([.int b]) ++ List.replicate (1 - (lg_sl ([.int b])).length) Slot.unset).toArray = ls at hl ⊢
  have hl : lv_has ls 1 [(0, .int b)] := hl
  refine lv_iload_n hx hb d_Reader_isAlone_0 rfl (lv_at hl 0 rfl) ?_
  refine lv_bipush (v := 91) hx hb d_Reader_isAlone_1 (by decide) ?_
  refine lv_icmp_eq (tgt := 37) hx hb d_Reader_isAlone_3 (by decide) (fun c_1 => ?_) (fun c_1 => ?_)
  · refine lv_iconst (v := 1) hx hb d_Reader_isAlone_37 (by decide) ?_
    refine lv_goto (tgt := 42) hx hb d_Reader_isAlone_38 (by decide) ?_
    have hP9 := hP.sub (ws' := []) [] rfl
    have hD9 := hD.sub (ws' := []) [] (by decide) rfl
    exact W.zret (v := 1) hx hb hr (by decide) (fun t9 ht hW => ⟨⟨1, (), rfl, by unfold m_Reader_isAlone_r; simp only [if_pos c_1], by rw [ht]; exact hP9, va_K.moved hW.alike hK, hD9⟩, hS.F ht⟩) hS.2.2 d_Reader_isAlone_42
  · refine lv_iload_n hx hb d_Reader_isAlone_6 rfl (lv_at hl 0 rfl) ?_
    refine lv_bipush (v := 93) hx hb d_Reader_isAlone_7 (by decide) ?_
    refine lv_icmp_eq (tgt := 37) hx hb d_Reader_isAlone_9 (by decide) (fun c_2 => ?_) (fun c_2 => ?_)
    · refine lv_iconst (v := 1) hx hb d_Reader_isAlone_37 (by decide) ?_
      refine lv_goto (tgt := 42) hx hb d_Reader_isAlone_38 (by decide) ?_
      have hP9 := hP.sub (ws' := []) [] rfl
      have hD9 := hD.sub (ws' := []) [] (by decide) rfl
      exact W.zret (v := 1) hx hb hr (by decide) (fun t9 ht hW => ⟨⟨1, (), rfl, by unfold m_Reader_isAlone_r; simp only [if_neg c_1, if_pos c_2], by rw [ht]; exact hP9, va_K.moved hW.alike hK, hD9⟩, hS.F ht⟩) hS.2.2 d_Reader_isAlone_42
    · refine lv_iload_n hx hb d_Reader_isAlone_12 rfl (lv_at hl 0 rfl) ?_
      refine lv_bipush (v := 40) hx hb d_Reader_isAlone_13 (by decide) ?_
      refine lv_icmp_eq (tgt := 37) hx hb d_Reader_isAlone_15 (by decide) (fun c_3 => ?_) (fun c_3 => ?_)
      · refine lv_iconst (v := 1) hx hb d_Reader_isAlone_37 (by decide) ?_
        refine lv_goto (tgt := 42) hx hb d_Reader_isAlone_38 (by decide) ?_
        have hP9 := hP.sub (ws' := []) [] rfl
        have hD9 := hD.sub (ws' := []) [] (by decide) rfl
        exact W.zret (v := 1) hx hb hr (by decide) (fun t9 ht hW => ⟨⟨1, (), rfl, by unfold m_Reader_isAlone_r; simp only [if_neg c_1, if_neg c_2, if_pos c_3], by rw [ht]; exact hP9, va_K.moved hW.alike hK, hD9⟩, hS.F ht⟩) hS.2.2 d_Reader_isAlone_42
      · refine lv_iload_n hx hb d_Reader_isAlone_18 rfl (lv_at hl 0 rfl) ?_
        refine lv_bipush (v := 41) hx hb d_Reader_isAlone_19 (by decide) ?_
        refine lv_icmp_eq (tgt := 37) hx hb d_Reader_isAlone_21 (by decide) (fun c_4 => ?_) (fun c_4 => ?_)
        · refine lv_iconst (v := 1) hx hb d_Reader_isAlone_37 (by decide) ?_
          refine lv_goto (tgt := 42) hx hb d_Reader_isAlone_38 (by decide) ?_
          have hP9 := hP.sub (ws' := []) [] rfl
          have hD9 := hD.sub (ws' := []) [] (by decide) rfl
          exact W.zret (v := 1) hx hb hr (by decide) (fun t9 ht hW => ⟨⟨1, (), rfl, by unfold m_Reader_isAlone_r; simp only [if_neg c_1, if_neg c_2, if_neg c_3, if_pos c_4], by rw [ht]; exact hP9, va_K.moved hW.alike hK, hD9⟩, hS.F ht⟩) hS.2.2 d_Reader_isAlone_42
        · refine lv_iload_n hx hb d_Reader_isAlone_24 rfl (lv_at hl 0 rfl) ?_
          have hPc := hP.sub (ws' := []) [] rfl
          have hDc := hD.sub (ws' := []) [] (by decide) rfl
          have hKc := hK.sub (tys' := []) [] rfl
          have hFc := va_free (wc := []) hD hS hA [] rfl
          refine va_calli (va_runS (As := [.int b]) (rest := []) ⟨hx, hb, hml, hown, hts⟩ (c_Reader_isSign l dC dI s.heap.size b) (va_cwS 1 hts (tw_GS tw_cons cw_Reader_isSign lk_Reader_93 st_Reader_isSign ini_Reader) rfl rfl rfl (by decide +kernel) ⟨Nat.le_of_ble_eq_true rfl, Nat.le_of_ble_eq_true rfl⟩) ⟨fun a U g mk q => by obtain ⟨q0, q1, qP, qK, qD⟩ := q; exact ⟨q0, q1, qP, va_K.moved (u := U) (U := U.calling g mk a) (Vm.Alike.refl U.vm) qK, qD⟩, fun U hU hW => ⟨rfl, by rw [hU], by rw [hU]; exact hPc, va_K.moved hW.alike hKc, hDc.weaken (fun _ _ _ _ => trivial)⟩⟩ rfl rfl hl.1 rfl (lv_room (Nat.le_of_ble_eq_true rfl)) d_Reader_isAlone_25 ⟨Nat.le_of_ble_eq_true rfl, Nat.le_of_ble_eq_true rfl⟩) hS (fun q _ h => hFc q h) hFc (fun r9 u9 t9 H1 locs ht hvm e9 hB hz1 hk1 hS => ?_)
          obtain ⟨hP1, hK1, hD1⟩ := hB
          rw [ht] at hP1
          obtain ⟨hP, hD⟩ := va_join (wr := []) (w1 := []) hP hD [] [] rfl rfl (by decide) (by decide) hk1 hFc hP1 hD1
          subst e9
          clear hP1 hD1 hK1 hvm hz1 hk1 hFc hKc hDc hPc
          subst ht
          generalize t9.heap = H at hP hS ⊢
          have hP : va_P (dC, dI) classes [] H := hP
          have hD : va_D A [] := hD
          refine lv_if_eq (tgt := 41) hx hb d_Reader_isAlone_28 (by decide) (fun c_5 => ?_) (fun c_5 => ?_)
          · refine lv_iconst (v := 0) hx hb d_Reader_isAlone_41 (by decide) ?_
            have hP9 := hP.sub (ws' := []) [] rfl
            have hD9 := hD.sub (ws' := []) [] (by decide) rfl
            exact W.zret (v := 0) hx hb hr (by decide) (fun t9 ht hW => ⟨⟨0, (), rfl, by unfold m_Reader_isAlone_r; simp only [if_neg c_1, if_neg c_2, if_neg c_3, if_neg c_4, if_pos c_5], by rw [ht]; exact hP9, va_K.moved hW.alike hK, hD9⟩, hS.F ht⟩) hS.2.2 d_Reader_isAlone_42
          · refine lv_iload_n hx hb d_Reader_isAlone_31 rfl (lv_at hl 0 rfl) ?_
            refine lv_bipush (v := 45) hx hb d_Reader_isAlone_32 (by decide) ?_
            refine lv_icmp_eq (tgt := 41) hx hb d_Reader_isAlone_34 (by decide) (fun c_6 => ?_) (fun c_6 => ?_)
            · refine lv_iconst (v := 0) hx hb d_Reader_isAlone_41 (by decide) ?_
              have hP9 := hP.sub (ws' := []) [] rfl
              have hD9 := hD.sub (ws' := []) [] (by decide) rfl
              exact W.zret (v := 0) hx hb hr (by decide) (fun t9 ht hW => ⟨⟨0, (), rfl, by unfold m_Reader_isAlone_r; simp only [if_neg c_1, if_neg c_2, if_neg c_3, if_neg c_4, if_neg c_5, if_pos c_6], by rw [ht]; exact hP9, va_K.moved hW.alike hK, hD9⟩, hS.F ht⟩) hS.2.2 d_Reader_isAlone_42
            · refine lv_iconst (v := 1) hx hb d_Reader_isAlone_37 (by decide) ?_
              refine lv_goto (tgt := 42) hx hb d_Reader_isAlone_38 (by decide) ?_
              have hP9 := hP.sub (ws' := []) [] rfl
              have hD9 := hD.sub (ws' := []) [] (by decide) rfl
              exact W.zret (v := 1) hx hb hr (by decide) (fun t9 ht hW => ⟨⟨1, (), rfl, by unfold m_Reader_isAlone_r; simp only [if_neg c_1, if_neg c_2, if_neg c_3, if_neg c_4, if_neg c_5, if_neg c_6], by rw [ht]; exact hP9, va_K.moved hW.alike hK, hD9⟩, hS.F ht⟩) hS.2.2 d_Reader_isAlone_42

def m_Deeds_inBounds_r (v : Int64) : Int32 := if ((lg_cmp v ((-1000000000)))) < ((0 : Int32)) then (-2147483639) else if ((lg_cmp v 1000000000)) ≤ ((0 : Int32)) then hs_number v.toInt32 else (-2147483639)
set_option maxHeartbeats 4000000 in
set_option maxRecDepth 100000 in
theorem c_Deeds_inBounds (l : Launch) (dC : Nat → ClassId) (dI : Nat → Nat → Nat) (sz : Nat) (v : Int64)  : Met l y_Deeds_inBounds w_Deeds_inBounds ({ frames := 1, cells := 0, slots := 0, locals := 20 }) (va_Pc [.long v] (fun U => U.heap.size = sz ∧ va_P (dC, dI) classes ([] : va_W) U.heap ∧ va_K (dC, dI) classes [] U ∧ va_D (fun _ => True) ([] : va_W))) (va_Qi (fun (r : Int32) (_ : Unit) => r = m_Deeds_inBounds_r v) (fun (_ : Unit) t => va_P (dC, dI) classes ([] : va_W) t.heap ∧ va_K (dC, dI) classes [] t ∧ va_D (va_A ([] : va_W) sz) ([] : va_W)) (va_A ([] : va_W) sz)) 0 0 (va_A ([] : va_W) sz) := by
  refine Met.ofW (cc := b_Deeds_inBounds) (maxL := 2) (ret := (some .int)) (by decide) rfl ?_
  intro p e s m args below meth c s₁ B hml hv
  obtain ⟨rfl, hsz, hP, hK, hD0⟩ := hv
  have hx := B.exec
  have hb := B.bytes
  have hr := B.returns
  have hts := atoms_spec (ws := w_Deeds_inBounds) B.pre
  have htt : ∀ w ∈ tw_T, w.before _ s = true := fun w h => hts w (List.mem_cons_of_mem _ h)
  have hown : s.vm.findClass R_Deeds = some m.cls := findClass_of_methodNamed B.named
  have hlocks := B.notSynchronized
  subst hsz
  have hD := hD0.self (sz := s.heap.size)
  generalize hAe : va_A ([] : va_W) s.heap.size = A at hD ⊢
  have hA : ∀ q : Nat, s.heap.size ≤ q → A q := fun q h => by rw [← hAe]; exact Or.inr h
  have hS : va_S A s.heap s.heap [] := va_S.rf
  have hP : va_P (dC, dI) classes ([] : va_W) s.heap := hP
  have hl := lv_entry ([.long v]) (n := 2) (Nat.le_of_ble_eq_true rfl)
  rw [lg_entry_eq]
  generalize (lg_sl ([.long v]) ++ List.replicate (2 - (lg_sl ([.long v])).length) Slot.unset).toArray = ls at hl ⊢
  have hl : lv_has ls 2 [(0, .long v)] := hl
  refine lv_lload_n hx hb d_Deeds_inBounds_0 rfl (lv_at hl 0 rfl) ?_
  refine lv_ldc2 (v := (-1000000000)) hx hb hown (htt _ lk_Deeds_164) d_Deeds_inBounds_1 ?_
  refine W.lcmp hx hb d_Deeds_inBounds_4 ?_
  refine lv_if_lt (tgt := 16) hx hb d_Deeds_inBounds_5 (by decide) (fun c_1 => ?_) (fun c_1 => ?_)
  · refine lv_ldc (v := (-2147483639)) hx hb hown (htt _ lk_Deeds_168) d_Deeds_inBounds_16 ?_
    refine lv_goto (tgt := 26) hx hb d_Deeds_inBounds_18 (by decide) ?_
    have hP9 := hP.sub (ws' := []) [] rfl
    have hD9 := hD.sub (ws' := []) [] (by decide) rfl
    exact W.iret (v := (-2147483639)) hx hb hr (fun t9 ht hW => ⟨⟨(-2147483639), (), rfl, by unfold m_Deeds_inBounds_r; simp only [if_pos c_1], by rw [ht]; exact hP9, va_K.moved hW.alike hK, hD9⟩, hS.F ht⟩) hS.2.2 d_Deeds_inBounds_26
  · refine lv_lload_n hx hb d_Deeds_inBounds_8 rfl (lv_at hl 0 rfl) ?_
    refine lv_ldc2 (v := 1000000000) hx hb hown (htt _ lk_Deeds_166) d_Deeds_inBounds_9 ?_
    refine W.lcmp hx hb d_Deeds_inBounds_12 ?_
    refine lv_if_le (tgt := 21) hx hb d_Deeds_inBounds_13 (by decide) (fun c_2 => ?_) (fun c_2 => ?_)
    · refine lv_lload_n hx hb d_Deeds_inBounds_21 rfl (lv_at hl 0 rfl) ?_
      refine lv_l2i hx hb d_Deeds_inBounds_22 rfl ?_
      have hPc := hP.sub (ws' := []) [] rfl
      have hDc := hD.sub (ws' := []) [] (by decide) rfl
      have hKc := hK.sub (tys' := []) [] rfl
      have hFc := va_free (wc := []) hD hS hA [] rfl
      refine va_calli (va_runS (As := [.int v.toInt32]) (rest := []) ⟨hx, hb, hml, hown, hts⟩ (c_Heap_number l dC dI s.heap.size v.toInt32) (va_cwS 1 hts (tw_GS tw_cons cw_Heap_number lk_Deeds_127 st_Heap_number ini_Heap) rfl rfl rfl (by decide +kernel) ⟨Nat.le_of_ble_eq_true rfl, Nat.le_of_ble_eq_true rfl⟩) ⟨fun a U g mk q => by obtain ⟨q0, q1, qP, qK, qD⟩ := q; exact ⟨q0, q1, qP, va_K.moved (u := U) (U := U.calling g mk a) (Vm.Alike.refl U.vm) qK, qD⟩, fun U hU hW => ⟨rfl, by rw [hU], by rw [hU]; exact hPc, va_K.moved hW.alike hKc, hDc.weaken (fun _ _ _ _ => trivial)⟩⟩ rfl rfl hl.1 rfl (lv_room (Nat.le_of_ble_eq_true rfl)) d_Deeds_inBounds_23 ⟨Nat.le_of_ble_eq_true rfl, Nat.le_of_ble_eq_true rfl⟩) hS (fun q _ h => hFc q h) hFc (fun r9 u9 t9 H1 locs ht hvm e9 hB hz1 hk1 hS => ?_)
      obtain ⟨hP1, hK1, hD1⟩ := hB
      rw [ht] at hP1
      obtain ⟨hP, hD⟩ := va_join (wr := []) (w1 := []) hP hD [] [] rfl rfl (by decide) (by decide) hk1 hFc hP1 hD1
      subst e9
      clear hP1 hD1 hK1 hvm hz1 hk1 hFc hKc hDc hPc
      subst ht
      generalize t9.heap = H at hP hS ⊢
      have hP : va_P (dC, dI) classes [] H := hP
      have hD : va_D A [] := hD
      have hP9 := hP.sub (ws' := []) [] rfl
      have hD9 := hD.sub (ws' := []) [] (by decide) rfl
      exact W.iret (v := hs_number v.toInt32) hx hb hr (fun t9 ht hW => ⟨⟨hs_number v.toInt32, (), rfl, by unfold m_Deeds_inBounds_r; simp only [if_neg c_1, if_pos c_2], by rw [ht]; exact hP9, va_K.moved hW.alike hK, hD9⟩, hS.F ht⟩) hS.2.2 d_Deeds_inBounds_26
    · refine lv_ldc (v := (-2147483639)) hx hb hown (htt _ lk_Deeds_168) d_Deeds_inBounds_16 ?_
      refine lv_goto (tgt := 26) hx hb d_Deeds_inBounds_18 (by decide) ?_
      have hP9 := hP.sub (ws' := []) [] rfl
      have hD9 := hD.sub (ws' := []) [] (by decide) rfl
      exact W.iret (v := (-2147483639)) hx hb hr (fun t9 ht hW => ⟨⟨(-2147483639), (), rfl, by unfold m_Deeds_inBounds_r; simp only [if_neg c_1, if_neg c_2], by rw [ht]; exact hP9, va_K.moved hW.alike hK, hD9⟩, hS.F ht⟩) hS.2.2 d_Deeds_inBounds_26
