theorem d_Model_kindOf_0 : decode b_Model_kindOf 0 = .ok (.lload_n 0, 1) := by decide +kernel
theorem d_Model_kindOf_1 : decode b_Model_kindOf 1 = .ok (.ldc2_w 7, 3) := by decide +kernel
theorem d_Model_kindOf_4 : decode b_Model_kindOf 4 = .ok (.land, 1) := by decide +kernel
theorem d_Model_kindOf_5 : decode b_Model_kindOf 5 = .ok (.l2i, 1) := by decide +kernel
theorem d_Model_kindOf_6 : decode b_Model_kindOf 6 = .ok (.ireturn, 1) := by decide +kernel
theorem lk_Model_7 : Cond.constantLong "TurtleWorldModel" 7 3 ∈ tw_T := tw_i10 29 (by decide +kernel) (by decide +kernel)
theorem d_Model_what_0 : decode b_Model_what 0 = .ok (.lload_n 0, 1) := by decide +kernel
theorem d_Model_what_1 : decode b_Model_what 1 = .ok (.iconst 2, 1) := by decide +kernel
theorem d_Model_what_2 : decode b_Model_what 2 = .ok (.lshr, 1) := by decide +kernel
theorem d_Model_what_3 : decode b_Model_what 3 = .ok (.l2i, 1) := by decide +kernel
theorem d_Model_what_4 : decode b_Model_what 4 = .ok (.ireturn, 1) := by decide +kernel
theorem d_Model_number_0 : decode b_Model_number 0 = .ok (.iload_n 0, 1) := by decide +kernel
theorem d_Model_number_1 : decode b_Model_number 1 = .ok (.i2l, 1) := by decide +kernel
theorem d_Model_number_2 : decode b_Model_number 2 = .ok (.iconst 2, 1) := by decide +kernel
theorem d_Model_number_3 : decode b_Model_number 3 = .ok (.lshl, 1) := by decide +kernel
theorem d_Model_number_4 : decode b_Model_number 4 = .ok (.lreturn, 1) := by decide +kernel
theorem d_Model_wordValue_0 : decode b_Model_wordValue 0 = .ok (.iload_n 0, 1) := by decide +kernel
theorem d_Model_wordValue_1 : decode b_Model_wordValue 1 = .ok (.i2l, 1) := by decide +kernel
theorem d_Model_wordValue_2 : decode b_Model_wordValue 2 = .ok (.iconst 2, 1) := by decide +kernel
theorem d_Model_wordValue_3 : decode b_Model_wordValue 3 = .ok (.lshl, 1) := by decide +kernel
theorem d_Model_wordValue_4 : decode b_Model_wordValue 4 = .ok (.lconst 1, 1) := by decide +kernel
theorem d_Model_wordValue_5 : decode b_Model_wordValue 5 = .ok (.lor, 1) := by decide +kernel
theorem d_Model_wordValue_6 : decode b_Model_wordValue 6 = .ok (.lreturn, 1) := by decide +kernel
theorem d_Model_listValue_0 : decode b_Model_listValue 0 = .ok (.iload_n 0, 1) := by decide +kernel
theorem d_Model_listValue_1 : decode b_Model_listValue 1 = .ok (.i2l, 1) := by decide +kernel
theorem d_Model_listValue_2 : decode b_Model_listValue 2 = .ok (.iconst 2, 1) := by decide +kernel
theorem d_Model_listValue_3 : decode b_Model_listValue 3 = .ok (.lshl, 1) := by decide +kernel
theorem d_Model_listValue_4 : decode b_Model_listValue 4 = .ok (.ldc2_w 9, 3) := by decide +kernel
theorem d_Model_listValue_7 : decode b_Model_listValue 7 = .ok (.lor, 1) := by decide +kernel
theorem d_Model_listValue_8 : decode b_Model_listValue 8 = .ok (.lreturn, 1) := by decide +kernel
theorem lk_Model_9 : Cond.constantLong "TurtleWorldModel" 9 2 ∈ tw_T := tw_i10 117 (by decide +kernel) (by decide +kernel)
theorem d_Model_isNumber_0 : decode b_Model_isNumber 0 = .ok (.lload_n 0, 1) := by decide +kernel
theorem d_Model_isNumber_1 : decode b_Model_isNumber 1 = .ok (.invokestatic 11, 3) := by decide +kernel
theorem d_Model_isNumber_4 : decode b_Model_isNumber 4 = .ok (.ifCond .ne 7, 3) := by decide +kernel
theorem d_Model_isNumber_7 : decode b_Model_isNumber 7 = .ok (.iconst 1, 1) := by decide +kernel
theorem d_Model_isNumber_8 : decode b_Model_isNumber 8 = .ok (.goto 4, 3) := by decide +kernel
theorem d_Model_isNumber_11 : decode b_Model_isNumber 11 = .ok (.iconst 0, 1) := by decide +kernel
theorem d_Model_isNumber_12 : decode b_Model_isNumber 12 = .ok (.ireturn, 1) := by decide +kernel
theorem lk_Model_11 : Cond.methodLink "TurtleWorldModel" 11 ⟨"TurtleWorldModel", "kindOf", "(J)I"⟩ ∈ tw_T := tw_i10 48 (by decide +kernel) (by decide +kernel)
theorem st_Model_kindOf : Cond.static ⟨"TurtleWorldModel", "kindOf", "(J)I"⟩ ∈ tw_T := tw_i10 49 (by decide +kernel) (by decide +kernel)
theorem ini_Model : Cond.initialized "TurtleWorldModel" ∈ tw_T := tw_i1 20 (by decide +kernel) (by decide +kernel)
theorem d_Model_isWord_0 : decode b_Model_isWord 0 = .ok (.lload_n 0, 1) := by decide +kernel
theorem d_Model_isWord_1 : decode b_Model_isWord 1 = .ok (.invokestatic 11, 3) := by decide +kernel
theorem d_Model_isWord_4 : decode b_Model_isWord 4 = .ok (.iconst 1, 1) := by decide +kernel
theorem d_Model_isWord_5 : decode b_Model_isWord 5 = .ok (.if_icmp .ne 7, 3) := by decide +kernel
theorem d_Model_isWord_8 : decode b_Model_isWord 8 = .ok (.iconst 1, 1) := by decide +kernel
theorem d_Model_isWord_9 : decode b_Model_isWord 9 = .ok (.goto 4, 3) := by decide +kernel
theorem d_Model_isWord_12 : decode b_Model_isWord 12 = .ok (.iconst 0, 1) := by decide +kernel
theorem d_Model_isWord_13 : decode b_Model_isWord 13 = .ok (.ireturn, 1) := by decide +kernel
theorem d_Model_isList_0 : decode b_Model_isList 0 = .ok (.lload_n 0, 1) := by decide +kernel
theorem d_Model_isList_1 : decode b_Model_isList 1 = .ok (.invokestatic 11, 3) := by decide +kernel
theorem d_Model_isList_4 : decode b_Model_isList 4 = .ok (.iconst 2, 1) := by decide +kernel
theorem d_Model_isList_5 : decode b_Model_isList 5 = .ok (.if_icmp .ne 7, 3) := by decide +kernel
theorem d_Model_isList_8 : decode b_Model_isList 8 = .ok (.iconst 1, 1) := by decide +kernel
theorem d_Model_isList_9 : decode b_Model_isList 9 = .ok (.goto 4, 3) := by decide +kernel
theorem d_Model_isList_12 : decode b_Model_isList 12 = .ok (.iconst 0, 1) := by decide +kernel
theorem d_Model_isList_13 : decode b_Model_isList 13 = .ok (.ireturn, 1) := by decide +kernel
theorem d_Model_isSign_0 : decode b_Model_isSign 0 = .ok (.iload_n 0, 1) := by decide +kernel
theorem d_Model_isSign_1 : decode b_Model_isSign 1 = .ok (.bipush 43, 2) := by decide +kernel
theorem d_Model_isSign_3 : decode b_Model_isSign 3 = .ok (.if_icmp .eq 39, 3) := by decide +kernel
theorem d_Model_isSign_6 : decode b_Model_isSign 6 = .ok (.iload_n 0, 1) := by decide +kernel
theorem d_Model_isSign_7 : decode b_Model_isSign 7 = .ok (.bipush 45, 2) := by decide +kernel
theorem d_Model_isSign_9 : decode b_Model_isSign 9 = .ok (.if_icmp .eq 33, 3) := by decide +kernel
theorem d_Model_isSign_12 : decode b_Model_isSign 12 = .ok (.iload_n 0, 1) := by decide +kernel
theorem d_Model_isSign_13 : decode b_Model_isSign 13 = .ok (.bipush 42, 2) := by decide +kernel
theorem d_Model_isSign_15 : decode b_Model_isSign 15 = .ok (.if_icmp .eq 27, 3) := by decide +kernel
theorem d_Model_isSign_18 : decode b_Model_isSign 18 = .ok (.iload_n 0, 1) := by decide +kernel
theorem d_Model_isSign_19 : decode b_Model_isSign 19 = .ok (.bipush 47, 2) := by decide +kernel
theorem d_Model_isSign_21 : decode b_Model_isSign 21 = .ok (.if_icmp .eq 21, 3) := by decide +kernel
theorem d_Model_isSign_24 : decode b_Model_isSign 24 = .ok (.iload_n 0, 1) := by decide +kernel
theorem d_Model_isSign_25 : decode b_Model_isSign 25 = .ok (.bipush 61, 2) := by decide +kernel
theorem d_Model_isSign_27 : decode b_Model_isSign 27 = .ok (.if_icmp .eq 15, 3) := by decide +kernel
theorem d_Model_isSign_30 : decode b_Model_isSign 30 = .ok (.iload_n 0, 1) := by decide +kernel
theorem d_Model_isSign_31 : decode b_Model_isSign 31 = .ok (.bipush 60, 2) := by decide +kernel
theorem d_Model_isSign_33 : decode b_Model_isSign 33 = .ok (.if_icmp .eq 9, 3) := by decide +kernel
theorem d_Model_isSign_36 : decode b_Model_isSign 36 = .ok (.iload_n 0, 1) := by decide +kernel
theorem d_Model_isSign_37 : decode b_Model_isSign 37 = .ok (.bipush 62, 2) := by decide +kernel
theorem d_Model_isSign_39 : decode b_Model_isSign 39 = .ok (.if_icmp .ne 7, 3) := by decide +kernel
theorem d_Model_isSign_42 : decode b_Model_isSign 42 = .ok (.iconst 1, 1) := by decide +kernel
theorem d_Model_isSign_43 : decode b_Model_isSign 43 = .ok (.goto 4, 3) := by decide +kernel
theorem d_Model_isSign_46 : decode b_Model_isSign 46 = .ok (.iconst 0, 1) := by decide +kernel
theorem d_Model_isSign_47 : decode b_Model_isSign 47 = .ok (.ireturn, 1) := by decide +kernel
theorem d_Model_isDigit_0 : decode b_Model_isDigit 0 = .ok (.iload_n 0, 1) := by decide +kernel
theorem d_Model_isDigit_1 : decode b_Model_isDigit 1 = .ok (.bipush 48, 2) := by decide +kernel
theorem d_Model_isDigit_3 : decode b_Model_isDigit 3 = .ok (.if_icmp .lt 13, 3) := by decide +kernel
theorem d_Model_isDigit_6 : decode b_Model_isDigit 6 = .ok (.iload_n 0, 1) := by decide +kernel
theorem d_Model_isDigit_7 : decode b_Model_isDigit 7 = .ok (.bipush 57, 2) := by decide +kernel
theorem d_Model_isDigit_9 : decode b_Model_isDigit 9 = .ok (.if_icmp .gt 7, 3) := by decide +kernel
theorem d_Model_isDigit_12 : decode b_Model_isDigit 12 = .ok (.iconst 1, 1) := by decide +kernel
theorem d_Model_isDigit_13 : decode b_Model_isDigit 13 = .ok (.goto 4, 3) := by decide +kernel
theorem d_Model_isDigit_16 : decode b_Model_isDigit 16 = .ok (.iconst 0, 1) := by decide +kernel
theorem d_Model_isDigit_17 : decode b_Model_isDigit 17 = .ok (.ireturn, 1) := by decide +kernel
theorem d_Model_isGood_0 : decode b_Model_isGood 0 = .ok (.iload_n 0, 1) := by decide +kernel
theorem d_Model_isGood_1 : decode b_Model_isGood 1 = .ok (.bipush 10, 2) := by decide +kernel
theorem d_Model_isGood_3 : decode b_Model_isGood 3 = .ok (.if_icmp .eq 15, 3) := by decide +kernel
theorem d_Model_isGood_6 : decode b_Model_isGood 6 = .ok (.iload_n 0, 1) := by decide +kernel
theorem d_Model_isGood_7 : decode b_Model_isGood 7 = .ok (.bipush 32, 2) := by decide +kernel
theorem d_Model_isGood_9 : decode b_Model_isGood 9 = .ok (.if_icmp .lt 13, 3) := by decide +kernel
theorem d_Model_isGood_12 : decode b_Model_isGood 12 = .ok (.iload_n 0, 1) := by decide +kernel
theorem d_Model_isGood_13 : decode b_Model_isGood 13 = .ok (.bipush 126, 2) := by decide +kernel
theorem d_Model_isGood_15 : decode b_Model_isGood 15 = .ok (.if_icmp .gt 7, 3) := by decide +kernel
theorem d_Model_isGood_18 : decode b_Model_isGood 18 = .ok (.iconst 1, 1) := by decide +kernel
theorem d_Model_isGood_19 : decode b_Model_isGood 19 = .ok (.goto 4, 3) := by decide +kernel
theorem d_Model_isGood_22 : decode b_Model_isGood 22 = .ok (.iconst 0, 1) := by decide +kernel
theorem d_Model_isGood_23 : decode b_Model_isGood 23 = .ok (.ireturn, 1) := by decide +kernel
theorem d_Model_isBlank_0 : decode b_Model_isBlank 0 = .ok (.iload_n 0, 1) := by decide +kernel
theorem d_Model_isBlank_1 : decode b_Model_isBlank 1 = .ok (.bipush 10, 2) := by decide +kernel
theorem d_Model_isBlank_3 : decode b_Model_isBlank 3 = .ok (.if_icmp .eq 15, 3) := by decide +kernel
theorem d_Model_isBlank_6 : decode b_Model_isBlank 6 = .ok (.iload_n 0, 1) := by decide +kernel
theorem d_Model_isBlank_7 : decode b_Model_isBlank 7 = .ok (.bipush 32, 2) := by decide +kernel
theorem d_Model_isBlank_9 : decode b_Model_isBlank 9 = .ok (.if_icmp .eq 9, 3) := by decide +kernel
theorem d_Model_isBlank_12 : decode b_Model_isBlank 12 = .ok (.iload_n 0, 1) := by decide +kernel
theorem d_Model_isBlank_13 : decode b_Model_isBlank 13 = .ok (.bipush 59, 2) := by decide +kernel
theorem d_Model_isBlank_15 : decode b_Model_isBlank 15 = .ok (.if_icmp .ne 7, 3) := by decide +kernel
theorem d_Model_isBlank_18 : decode b_Model_isBlank 18 = .ok (.iconst 1, 1) := by decide +kernel
theorem d_Model_isBlank_19 : decode b_Model_isBlank 19 = .ok (.goto 4, 3) := by decide +kernel
theorem d_Model_isBlank_22 : decode b_Model_isBlank 22 = .ok (.iconst 0, 1) := by decide +kernel
theorem d_Model_isBlank_23 : decode b_Model_isBlank 23 = .ok (.ireturn, 1) := by decide +kernel
theorem d_Model_isSingle_0 : decode b_Model_isSingle 0 = .ok (.iload_n 0, 1) := by decide +kernel
theorem d_Model_isSingle_1 : decode b_Model_isSingle 1 = .ok (.invokestatic 412, 3) := by decide +kernel
theorem d_Model_isSingle_4 : decode b_Model_isSingle 4 = .ok (.ifCond .ne 15, 3) := by decide +kernel
theorem d_Model_isSingle_7 : decode b_Model_isSingle 7 = .ok (.iload_n 0, 1) := by decide +kernel
theorem d_Model_isSingle_8 : decode b_Model_isSingle 8 = .ok (.bipush 40, 2) := by decide +kernel
theorem d_Model_isSingle_10 : decode b_Model_isSingle 10 = .ok (.if_icmp .eq 9, 3) := by decide +kernel
theorem d_Model_isSingle_13 : decode b_Model_isSingle 13 = .ok (.iload_n 0, 1) := by decide +kernel
theorem d_Model_isSingle_14 : decode b_Model_isSingle 14 = .ok (.bipush 41, 2) := by decide +kernel
theorem d_Model_isSingle_16 : decode b_Model_isSingle 16 = .ok (.if_icmp .ne 7, 3) := by decide +kernel
theorem d_Model_isSingle_19 : decode b_Model_isSingle 19 = .ok (.iconst 1, 1) := by decide +kernel
theorem d_Model_isSingle_20 : decode b_Model_isSingle 20 = .ok (.goto 4, 3) := by decide +kernel
theorem d_Model_isSingle_23 : decode b_Model_isSingle 23 = .ok (.iconst 0, 1) := by decide +kernel
theorem d_Model_isSingle_24 : decode b_Model_isSingle 24 = .ok (.ireturn, 1) := by decide +kernel
theorem lk_Model_412 : Cond.methodLink "TurtleWorldModel" 412 ⟨"TurtleWorldModel", "isSign", "(I)Z"⟩ ∈ tw_T := tw_i10 7 (by decide +kernel) (by decide +kernel)
theorem st_Model_isSign : Cond.static ⟨"TurtleWorldModel", "isSign", "(I)Z"⟩ ∈ tw_T := tw_i10 8 (by decide +kernel) (by decide +kernel)
theorem d_Model_isBeyond_0 : decode b_Model_isBeyond 0 = .ok (.iload_n 0, 1) := by decide +kernel
theorem d_Model_isBeyond_1 : decode b_Model_isBeyond 1 = .ok (.ldc_w 833, 3) := by decide +kernel
theorem d_Model_isBeyond_4 : decode b_Model_isBeyond 4 = .ok (.if_icmp .gt 10, 3) := by decide +kernel
theorem d_Model_isBeyond_7 : decode b_Model_isBeyond 7 = .ok (.iload_n 0, 1) := by decide +kernel
theorem d_Model_isBeyond_8 : decode b_Model_isBeyond 8 = .ok (.ldc_w 834, 3) := by decide +kernel
theorem d_Model_isBeyond_11 : decode b_Model_isBeyond 11 = .ok (.if_icmp .ge 7, 3) := by decide +kernel
theorem d_Model_isBeyond_14 : decode b_Model_isBeyond 14 = .ok (.iconst 1, 1) := by decide +kernel
theorem d_Model_isBeyond_15 : decode b_Model_isBeyond 15 = .ok (.goto 4, 3) := by decide +kernel
theorem d_Model_isBeyond_18 : decode b_Model_isBeyond 18 = .ok (.iconst 0, 1) := by decide +kernel
theorem d_Model_isBeyond_19 : decode b_Model_isBeyond 19 = .ok (.ireturn, 1) := by decide +kernel
theorem lk_Model_833 : Cond.constant "TurtleWorldModel" 833 1000000 ∈ tw_T := tw_i11 19 (by decide +kernel) (by decide +kernel)
theorem lk_Model_834 : Cond.constant "TurtleWorldModel" 834 (-1000000) ∈ tw_T := tw_i11 20 (by decide +kernel) (by decide +kernel)
theorem d_Model_sign_0 : decode b_Model_sign 0 = .ok (.lload_n 0, 1) := by decide +kernel
theorem d_Model_sign_1 : decode b_Model_sign 1 = .ok (.ldc2_w 801, 3) := by decide +kernel
theorem d_Model_sign_4 : decode b_Model_sign 4 = .ok (.lcmp, 1) := by decide +kernel
theorem d_Model_sign_5 : decode b_Model_sign 5 = .ok (.ifCond .gt 11, 3) := by decide +kernel
theorem d_Model_sign_8 : decode b_Model_sign 8 = .ok (.lload_n 0, 1) := by decide +kernel
theorem d_Model_sign_9 : decode b_Model_sign 9 = .ok (.ldc2_w 803, 3) := by decide +kernel
theorem d_Model_sign_12 : decode b_Model_sign 12 = .ok (.lcmp, 1) := by decide +kernel
theorem d_Model_sign_13 : decode b_Model_sign 13 = .ok (.ifCond .ge 15, 3) := by decide +kernel
theorem d_Model_sign_16 : decode b_Model_sign 16 = .ok (.lload_n 0, 1) := by decide +kernel
theorem d_Model_sign_17 : decode b_Model_sign 17 = .ok (.lconst 0, 1) := by decide +kernel
theorem d_Model_sign_18 : decode b_Model_sign 18 = .ok (.lcmp, 1) := by decide +kernel
theorem d_Model_sign_19 : decode b_Model_sign 19 = .ok (.ifCond .le 7, 3) := by decide +kernel
theorem d_Model_sign_22 : decode b_Model_sign 22 = .ok (.iconst 1, 1) := by decide +kernel
theorem d_Model_sign_23 : decode b_Model_sign 23 = .ok (.goto 4, 3) := by decide +kernel
theorem d_Model_sign_26 : decode b_Model_sign 26 = .ok (.iconst (-1), 1) := by decide +kernel
theorem d_Model_sign_27 : decode b_Model_sign 27 = .ok (.ireturn, 1) := by decide +kernel
theorem d_Model_sign_28 : decode b_Model_sign 28 = .ok (.lload_n 0, 1) := by decide +kernel
theorem d_Model_sign_29 : decode b_Model_sign 29 = .ok (.lload_n 0, 1) := by decide +kernel
theorem d_Model_sign_30 : decode b_Model_sign 30 = .ok (.lmul, 1) := by decide +kernel
theorem d_Model_sign_31 : decode b_Model_sign 31 = .ok (.lload_n 0, 1) := by decide +kernel
theorem d_Model_sign_32 : decode b_Model_sign 32 = .ok (.lconst 0, 1) := by decide +kernel
theorem d_Model_sign_33 : decode b_Model_sign 33 = .ok (.lcmp, 1) := by decide +kernel
theorem d_Model_sign_34 : decode b_Model_sign 34 = .ok (.ifCond .ge 9, 3) := by decide +kernel
theorem d_Model_sign_37 : decode b_Model_sign 37 = .ok (.ldc2_w 805, 3) := by decide +kernel
theorem d_Model_sign_40 : decode b_Model_sign 40 = .ok (.goto 4, 3) := by decide +kernel
theorem d_Model_sign_43 : decode b_Model_sign 43 = .ok (.lconst 1, 1) := by decide +kernel
theorem d_Model_sign_44 : decode b_Model_sign 44 = .ok (.lmul, 1) := by decide +kernel
theorem d_Model_sign_45 : decode b_Model_sign 45 = .ok (.lstore 4, 2) := by decide +kernel
theorem d_Model_sign_47 : decode b_Model_sign 47 = .ok (.ldc2_w 7, 3) := by decide +kernel
theorem d_Model_sign_50 : decode b_Model_sign 50 = .ok (.lload_n 2, 1) := by decide +kernel
theorem d_Model_sign_51 : decode b_Model_sign 51 = .ok (.lmul, 1) := by decide +kernel
theorem d_Model_sign_52 : decode b_Model_sign 52 = .ok (.lload_n 2, 1) := by decide +kernel
theorem d_Model_sign_53 : decode b_Model_sign 53 = .ok (.lmul, 1) := by decide +kernel
theorem d_Model_sign_54 : decode b_Model_sign 54 = .ok (.lload_n 2, 1) := by decide +kernel
theorem d_Model_sign_55 : decode b_Model_sign 55 = .ok (.lconst 0, 1) := by decide +kernel
theorem d_Model_sign_56 : decode b_Model_sign 56 = .ok (.lcmp, 1) := by decide +kernel
theorem d_Model_sign_57 : decode b_Model_sign 57 = .ok (.ifCond .ge 9, 3) := by decide +kernel
theorem d_Model_sign_60 : decode b_Model_sign 60 = .ok (.ldc2_w 805, 3) := by decide +kernel
theorem d_Model_sign_63 : decode b_Model_sign 63 = .ok (.goto 4, 3) := by decide +kernel
theorem d_Model_sign_66 : decode b_Model_sign 66 = .ok (.lconst 1, 1) := by decide +kernel
theorem d_Model_sign_67 : decode b_Model_sign 67 = .ok (.lmul, 1) := by decide +kernel
theorem d_Model_sign_68 : decode b_Model_sign 68 = .ok (.lstore 6, 2) := by decide +kernel
theorem d_Model_sign_70 : decode b_Model_sign 70 = .ok (.lload 4, 2) := by decide +kernel
theorem d_Model_sign_72 : decode b_Model_sign 72 = .ok (.lload 6, 2) := by decide +kernel
theorem d_Model_sign_74 : decode b_Model_sign 74 = .ok (.ladd, 1) := by decide +kernel
theorem d_Model_sign_75 : decode b_Model_sign 75 = .ok (.lconst 0, 1) := by decide +kernel
theorem d_Model_sign_76 : decode b_Model_sign 76 = .ok (.invokestatic 807, 3) := by decide +kernel
theorem d_Model_sign_79 : decode b_Model_sign 79 = .ok (.ireturn, 1) := by decide +kernel
theorem lk_Model_801 : Cond.constantLong "TurtleWorldModel" 801 20000000 ∈ tw_T := tw_i11 28 (by decide +kernel) (by decide +kernel)
theorem lk_Model_803 : Cond.constantLong "TurtleWorldModel" 803 (-20000000) ∈ tw_T := tw_i11 29 (by decide +kernel) (by decide +kernel)
theorem lk_Model_807 : Cond.methodLink "TurtleWorldModel" 807 ⟨"java/lang/Long", "compare", "(JJ)I"⟩ ∈ tw_T := tw_i11 31 (by decide +kernel) (by decide +kernel)
theorem lk_Model_805 : Cond.constantLong "TurtleWorldModel" 805 (-1) ∈ tw_T := tw_i11 30 (by decide +kernel) (by decide +kernel)
theorem d_Reader_isSign_0 : decode b_Reader_isSign 0 = .ok (.iload_n 0, 1) := by decide +kernel
theorem d_Reader_isSign_1 : decode b_Reader_isSign 1 = .ok (.bipush 43, 2) := by decide +kernel
theorem d_Reader_isSign_3 : decode b_Reader_isSign 3 = .ok (.if_icmp .eq 39, 3) := by decide +kernel
theorem d_Reader_isSign_6 : decode b_Reader_isSign 6 = .ok (.iload_n 0, 1) := by decide +kernel
theorem d_Reader_isSign_7 : decode b_Reader_isSign 7 = .ok (.bipush 45, 2) := by decide +kernel
theorem d_Reader_isSign_9 : decode b_Reader_isSign 9 = .ok (.if_icmp .eq 33, 3) := by decide +kernel
theorem d_Reader_isSign_12 : decode b_Reader_isSign 12 = .ok (.iload_n 0, 1) := by decide +kernel
theorem d_Reader_isSign_13 : decode b_Reader_isSign 13 = .ok (.bipush 42, 2) := by decide +kernel
theorem d_Reader_isSign_15 : decode b_Reader_isSign 15 = .ok (.if_icmp .eq 27, 3) := by decide +kernel
theorem d_Reader_isSign_18 : decode b_Reader_isSign 18 = .ok (.iload_n 0, 1) := by decide +kernel
theorem d_Reader_isSign_19 : decode b_Reader_isSign 19 = .ok (.bipush 47, 2) := by decide +kernel
theorem d_Reader_isSign_21 : decode b_Reader_isSign 21 = .ok (.if_icmp .eq 21, 3) := by decide +kernel
theorem d_Reader_isSign_24 : decode b_Reader_isSign 24 = .ok (.iload_n 0, 1) := by decide +kernel
theorem d_Reader_isSign_25 : decode b_Reader_isSign 25 = .ok (.bipush 61, 2) := by decide +kernel
theorem d_Reader_isSign_27 : decode b_Reader_isSign 27 = .ok (.if_icmp .eq 15, 3) := by decide +kernel
theorem d_Reader_isSign_30 : decode b_Reader_isSign 30 = .ok (.iload_n 0, 1) := by decide +kernel
theorem d_Reader_isSign_31 : decode b_Reader_isSign 31 = .ok (.bipush 60, 2) := by decide +kernel
theorem d_Reader_isSign_33 : decode b_Reader_isSign 33 = .ok (.if_icmp .eq 9, 3) := by decide +kernel
theorem d_Reader_isSign_36 : decode b_Reader_isSign 36 = .ok (.iload_n 0, 1) := by decide +kernel
theorem d_Reader_isSign_37 : decode b_Reader_isSign 37 = .ok (.bipush 62, 2) := by decide +kernel
theorem d_Reader_isSign_39 : decode b_Reader_isSign 39 = .ok (.if_icmp .ne 7, 3) := by decide +kernel
theorem d_Reader_isSign_42 : decode b_Reader_isSign 42 = .ok (.iconst 1, 1) := by decide +kernel
theorem d_Reader_isSign_43 : decode b_Reader_isSign 43 = .ok (.goto 4, 3) := by decide +kernel
theorem d_Reader_isSign_46 : decode b_Reader_isSign 46 = .ok (.iconst 0, 1) := by decide +kernel
theorem d_Reader_isSign_47 : decode b_Reader_isSign 47 = .ok (.ireturn, 1) := by decide +kernel
theorem d_Reader_isDigit_0 : decode b_Reader_isDigit 0 = .ok (.iload_n 0, 1) := by decide +kernel
theorem d_Reader_isDigit_1 : decode b_Reader_isDigit 1 = .ok (.bipush 48, 2) := by decide +kernel
theorem d_Reader_isDigit_3 : decode b_Reader_isDigit 3 = .ok (.if_icmp .lt 13, 3) := by decide +kernel
theorem d_Reader_isDigit_6 : decode b_Reader_isDigit 6 = .ok (.iload_n 0, 1) := by decide +kernel
theorem d_Reader_isDigit_7 : decode b_Reader_isDigit 7 = .ok (.bipush 57, 2) := by decide +kernel
theorem d_Reader_isDigit_9 : decode b_Reader_isDigit 9 = .ok (.if_icmp .gt 7, 3) := by decide +kernel
theorem d_Reader_isDigit_12 : decode b_Reader_isDigit 12 = .ok (.iconst 1, 1) := by decide +kernel
theorem d_Reader_isDigit_13 : decode b_Reader_isDigit 13 = .ok (.goto 4, 3) := by decide +kernel
theorem d_Reader_isDigit_16 : decode b_Reader_isDigit 16 = .ok (.iconst 0, 1) := by decide +kernel
theorem d_Reader_isDigit_17 : decode b_Reader_isDigit 17 = .ok (.ireturn, 1) := by decide +kernel
theorem d_Reader_isAlone_0 : decode b_Reader_isAlone 0 = .ok (.iload_n 0, 1) := by decide +kernel
theorem d_Reader_isAlone_1 : decode b_Reader_isAlone 1 = .ok (.bipush 91, 2) := by decide +kernel
theorem d_Reader_isAlone_3 : decode b_Reader_isAlone 3 = .ok (.if_icmp .eq 34, 3) := by decide +kernel
theorem d_Reader_isAlone_6 : decode b_Reader_isAlone 6 = .ok (.iload_n 0, 1) := by decide +kernel
theorem d_Reader_isAlone_7 : decode b_Reader_isAlone 7 = .ok (.bipush 93, 2) := by decide +kernel
theorem d_Reader_isAlone_9 : decode b_Reader_isAlone 9 = .ok (.if_icmp .eq 28, 3) := by decide +kernel
theorem d_Reader_isAlone_12 : decode b_Reader_isAlone 12 = .ok (.iload_n 0, 1) := by decide +kernel
theorem d_Reader_isAlone_13 : decode b_Reader_isAlone 13 = .ok (.bipush 40, 2) := by decide +kernel
theorem d_Reader_isAlone_15 : decode b_Reader_isAlone 15 = .ok (.if_icmp .eq 22, 3) := by decide +kernel
theorem d_Reader_isAlone_18 : decode b_Reader_isAlone 18 = .ok (.iload_n 0, 1) := by decide +kernel
theorem d_Reader_isAlone_19 : decode b_Reader_isAlone 19 = .ok (.bipush 41, 2) := by decide +kernel
theorem d_Reader_isAlone_21 : decode b_Reader_isAlone 21 = .ok (.if_icmp .eq 16, 3) := by decide +kernel
theorem d_Reader_isAlone_24 : decode b_Reader_isAlone 24 = .ok (.iload_n 0, 1) := by decide +kernel
theorem d_Reader_isAlone_25 : decode b_Reader_isAlone 25 = .ok (.invokestatic 93, 3) := by decide +kernel
theorem d_Reader_isAlone_28 : decode b_Reader_isAlone 28 = .ok (.ifCond .eq 13, 3) := by decide +kernel
theorem d_Reader_isAlone_31 : decode b_Reader_isAlone 31 = .ok (.iload_n 0, 1) := by decide +kernel
theorem d_Reader_isAlone_32 : decode b_Reader_isAlone 32 = .ok (.bipush 45, 2) := by decide +kernel
theorem d_Reader_isAlone_34 : decode b_Reader_isAlone 34 = .ok (.if_icmp .eq 7, 3) := by decide +kernel
theorem d_Reader_isAlone_37 : decode b_Reader_isAlone 37 = .ok (.iconst 1, 1) := by decide +kernel
theorem d_Reader_isAlone_38 : decode b_Reader_isAlone 38 = .ok (.goto 4, 3) := by decide +kernel
theorem d_Reader_isAlone_41 : decode b_Reader_isAlone 41 = .ok (.iconst 0, 1) := by decide +kernel
theorem d_Reader_isAlone_42 : decode b_Reader_isAlone 42 = .ok (.ireturn, 1) := by decide +kernel
theorem lk_Reader_93 : Cond.methodLink "TurtleWorld$Reader" 93 ⟨"TurtleWorld$Reader", "isSign", "(I)Z"⟩ ∈ tw_T := tw_i4 37 (by decide +kernel) (by decide +kernel)
theorem st_Reader_isSign : Cond.static ⟨"TurtleWorld$Reader", "isSign", "(I)Z"⟩ ∈ tw_T := tw_i4 38 (by decide +kernel) (by decide +kernel)
theorem d_Deeds_inBounds_0 : decode b_Deeds_inBounds 0 = .ok (.lload_n 0, 1) := by decide +kernel
theorem d_Deeds_inBounds_1 : decode b_Deeds_inBounds 1 = .ok (.ldc2_w 164, 3) := by decide +kernel
theorem d_Deeds_inBounds_4 : decode b_Deeds_inBounds 4 = .ok (.lcmp, 1) := by decide +kernel
theorem d_Deeds_inBounds_5 : decode b_Deeds_inBounds 5 = .ok (.ifCond .lt 11, 3) := by decide +kernel
theorem d_Deeds_inBounds_8 : decode b_Deeds_inBounds 8 = .ok (.lload_n 0, 1) := by decide +kernel
theorem d_Deeds_inBounds_9 : decode b_Deeds_inBounds 9 = .ok (.ldc2_w 166, 3) := by decide +kernel
theorem d_Deeds_inBounds_12 : decode b_Deeds_inBounds 12 = .ok (.lcmp, 1) := by decide +kernel
theorem d_Deeds_inBounds_13 : decode b_Deeds_inBounds 13 = .ok (.ifCond .le 8, 3) := by decide +kernel
theorem d_Deeds_inBounds_16 : decode b_Deeds_inBounds 16 = .ok (.ldc 168, 2) := by decide +kernel
theorem d_Deeds_inBounds_18 : decode b_Deeds_inBounds 18 = .ok (.goto 8, 3) := by decide +kernel
theorem d_Deeds_inBounds_21 : decode b_Deeds_inBounds 21 = .ok (.lload_n 0, 1) := by decide +kernel
theorem d_Deeds_inBounds_22 : decode b_Deeds_inBounds 22 = .ok (.l2i, 1) := by decide +kernel
theorem d_Deeds_inBounds_23 : decode b_Deeds_inBounds 23 = .ok (.invokestatic 127, 3) := by decide +kernel
theorem d_Deeds_inBounds_26 : decode b_Deeds_inBounds 26 = .ok (.ireturn, 1) := by decide +kernel
theorem lk_Deeds_164 : Cond.constantLong "TurtleWorld$Deeds" 164 (-1000000000) ∈ tw_T := tw_i6 153 (by decide +kernel) (by decide +kernel)
theorem lk_Deeds_168 : Cond.constant "TurtleWorld$Deeds" 168 (-2147483639) ∈ tw_T := tw_i6 155 (by decide +kernel) (by decide +kernel)
theorem lk_Deeds_166 : Cond.constantLong "TurtleWorld$Deeds" 166 1000000000 ∈ tw_T := tw_i6 154 (by decide +kernel) (by decide +kernel)
theorem lk_Deeds_127 : Cond.methodLink "TurtleWorld$Deeds" 127 ⟨"TurtleWorld$Heap", "number", "(I)I"⟩ ∈ tw_T := tw_i6 115 (by decide +kernel) (by decide +kernel)
