theorem d_Machine_meet_0 : decode b_Machine_meet 0 = .ok (.aload_n 0, 1) := by decide +kernel
theorem d_Machine_meet_1 : decode b_Machine_meet 1 = .ok (.getfield 18, 3) := by decide +kernel
theorem d_Machine_meet_4 : decode b_Machine_meet 4 = .ok (.getfield 130, 3) := by decide +kernel
theorem d_Machine_meet_7 : decode b_Machine_meet 7 = .ok (.iconst 1, 1) := by decide +kernel
theorem d_Machine_meet_8 : decode b_Machine_meet 8 = .ok (.isub, 1) := by decide +kernel
theorem d_Machine_meet_9 : decode b_Machine_meet 9 = .ok (.istore_n 1, 1) := by decide +kernel
theorem d_Machine_meet_10 : decode b_Machine_meet 10 = .ok (.iload_n 1, 1) := by decide +kernel
theorem d_Machine_meet_11 : decode b_Machine_meet 11 = .ok (.ifCond .ge 6, 3) := by decide +kernel
theorem d_Machine_meet_14 : decode b_Machine_meet 14 = .ok (.ldc 160, 2) := by decide +kernel
theorem d_Machine_meet_16 : decode b_Machine_meet 16 = .ok (.ireturn, 1) := by decide +kernel
theorem d_Machine_meet_17 : decode b_Machine_meet 17 = .ok (.aload_n 0, 1) := by decide +kernel
theorem d_Machine_meet_18 : decode b_Machine_meet 18 = .ok (.getfield 15, 3) := by decide +kernel
theorem d_Machine_meet_21 : decode b_Machine_meet 21 = .ok (.aload_n 0, 1) := by decide +kernel
theorem d_Machine_meet_22 : decode b_Machine_meet 22 = .ok (.getfield 18, 3) := by decide +kernel
theorem d_Machine_meet_25 : decode b_Machine_meet 25 = .ok (.getfield 161, 3) := by decide +kernel
theorem d_Machine_meet_28 : decode b_Machine_meet 28 = .ok (.iload_n 1, 1) := by decide +kernel
theorem d_Machine_meet_29 : decode b_Machine_meet 29 = .ok (.iaload, 1) := by decide +kernel
theorem d_Machine_meet_30 : decode b_Machine_meet 30 = .ok (.aload_n 0, 1) := by decide +kernel
theorem d_Machine_meet_31 : decode b_Machine_meet 31 = .ok (.getfield 18, 3) := by decide +kernel
theorem d_Machine_meet_34 : decode b_Machine_meet 34 = .ok (.getfield 164, 3) := by decide +kernel
theorem d_Machine_meet_37 : decode b_Machine_meet 37 = .ok (.iload_n 1, 1) := by decide +kernel
theorem d_Machine_meet_38 : decode b_Machine_meet 38 = .ok (.iaload, 1) := by decide +kernel
theorem d_Machine_meet_39 : decode b_Machine_meet 39 = .ok (.invokevirtual 167, 3) := by decide +kernel
theorem d_Machine_meet_42 : decode b_Machine_meet 42 = .ok (.istore_n 2, 1) := by decide +kernel
theorem d_Machine_meet_43 : decode b_Machine_meet 43 = .ok (.iload_n 2, 1) := by decide +kernel
theorem d_Machine_meet_44 : decode b_Machine_meet 44 = .ok (.ldc 114, 2) := by decide +kernel
theorem d_Machine_meet_46 : decode b_Machine_meet 46 = .ok (.if_icmp .ne 34, 3) := by decide +kernel
theorem d_Machine_meet_49 : decode b_Machine_meet 49 = .ok (.aload_n 0, 1) := by decide +kernel
theorem d_Machine_meet_50 : decode b_Machine_meet 50 = .ok (.getfield 22, 3) := by decide +kernel
theorem d_Machine_meet_53 : decode b_Machine_meet 53 = .ok (.getfield 42, 3) := by decide +kernel
theorem d_Machine_meet_56 : decode b_Machine_meet 56 = .ok (.aload_n 0, 1) := by decide +kernel
theorem d_Machine_meet_57 : decode b_Machine_meet 57 = .ok (.getfield 18, 3) := by decide +kernel
theorem d_Machine_meet_60 : decode b_Machine_meet 60 = .ok (.getfield 151, 3) := by decide +kernel
theorem d_Machine_meet_63 : decode b_Machine_meet 63 = .ok (.iload_n 1, 1) := by decide +kernel
theorem d_Machine_meet_64 : decode b_Machine_meet 64 = .ok (.iaload, 1) := by decide +kernel
theorem d_Machine_meet_65 : decode b_Machine_meet 65 = .ok (.if_icmp .ne 12, 3) := by decide +kernel
theorem d_Machine_meet_68 : decode b_Machine_meet 68 = .ok (.aload_n 0, 1) := by decide +kernel
theorem d_Machine_meet_69 : decode b_Machine_meet 69 = .ok (.ldc 114, 2) := by decide +kernel
theorem d_Machine_meet_71 : decode b_Machine_meet 71 = .ok (.invokevirtual 170, 3) := by decide +kernel
theorem d_Machine_meet_74 : decode b_Machine_meet 74 = .ok (.goto 5, 3) := by decide +kernel
theorem d_Machine_meet_77 : decode b_Machine_meet 77 = .ok (.ldc 160, 2) := by decide +kernel
theorem d_Machine_meet_79 : decode b_Machine_meet 79 = .ok (.ireturn, 1) := by decide +kernel
theorem d_Machine_meet_80 : decode b_Machine_meet 80 = .ok (.aload_n 0, 1) := by decide +kernel
theorem d_Machine_meet_81 : decode b_Machine_meet 81 = .ok (.getfield 18, 3) := by decide +kernel
theorem d_Machine_meet_84 : decode b_Machine_meet 84 = .ok (.getfield 164, 3) := by decide +kernel
theorem d_Machine_meet_87 : decode b_Machine_meet 87 = .ok (.iload_n 1, 1) := by decide +kernel
theorem d_Machine_meet_88 : decode b_Machine_meet 88 = .ok (.dup2, 1) := by decide +kernel
theorem d_Machine_meet_89 : decode b_Machine_meet 89 = .ok (.iaload, 1) := by decide +kernel
theorem d_Machine_meet_90 : decode b_Machine_meet 90 = .ok (.iconst 1, 1) := by decide +kernel
theorem d_Machine_meet_91 : decode b_Machine_meet 91 = .ok (.iadd, 1) := by decide +kernel
theorem d_Machine_meet_92 : decode b_Machine_meet 92 = .ok (.iastore, 1) := by decide +kernel
theorem d_Machine_meet_93 : decode b_Machine_meet 93 = .ok (.iload_n 2, 1) := by decide +kernel
theorem d_Machine_meet_94 : decode b_Machine_meet 94 = .ok (.invokestatic 173, 3) := by decide +kernel
theorem d_Machine_meet_97 : decode b_Machine_meet 97 = .ok (.ifCond .eq 11, 3) := by decide +kernel
theorem d_Machine_meet_100 : decode b_Machine_meet 100 = .ok (.aload_n 0, 1) := by decide +kernel
theorem d_Machine_meet_101 : decode b_Machine_meet 101 = .ok (.iload_n 2, 1) := by decide +kernel
theorem d_Machine_meet_102 : decode b_Machine_meet 102 = .ok (.invokevirtual 177, 3) := by decide +kernel
theorem d_Machine_meet_105 : decode b_Machine_meet 105 = .ok (.goto 4, 3) := by decide +kernel
theorem d_Machine_meet_108 : decode b_Machine_meet 108 = .ok (.iload_n 2, 1) := by decide +kernel
theorem d_Machine_meet_109 : decode b_Machine_meet 109 = .ok (.ireturn, 1) := by decide +kernel
theorem lk_Machine_151 : Cond.fieldLink "TurtleWorld$Machine" 151 "TurtleWorld$Line" "waits" "[I" ∈ tw_T := tw_i3 32 (by decide +kernel) (by decide +kernel)
theorem d_Machine_take_0 : decode b_Machine_take 0 = .ok (.iload_n 1, 1) := by decide +kernel
theorem d_Machine_take_1 : decode b_Machine_take 1 = .ok (.ldc 110, 2) := by decide +kernel
theorem d_Machine_take_3 : decode b_Machine_take 3 = .ok (.if_icmp .ne 4, 3) := by decide +kernel
theorem d_Machine_take_6 : decode b_Machine_take 6 = .ok (.return_, 1) := by decide +kernel
theorem d_Machine_take_7 : decode b_Machine_take 7 = .ok (.aload_n 0, 1) := by decide +kernel
theorem d_Machine_take_8 : decode b_Machine_take 8 = .ok (.iconst 1, 1) := by decide +kernel
theorem d_Machine_take_9 : decode b_Machine_take 9 = .ok (.putfield 62, 3) := by decide +kernel
theorem d_Machine_take_12 : decode b_Machine_take 12 = .ok (.aload_n 0, 1) := by decide +kernel
theorem d_Machine_take_13 : decode b_Machine_take 13 = .ok (.iload_n 1, 1) := by decide +kernel
theorem d_Machine_take_14 : decode b_Machine_take 14 = .ok (.putfield 111, 3) := by decide +kernel
theorem d_Machine_take_17 : decode b_Machine_take 17 = .ok (.iload_n 1, 1) := by decide +kernel
theorem d_Machine_take_18 : decode b_Machine_take 18 = .ok (.ldc 114, 2) := by decide +kernel
theorem d_Machine_take_20 : decode b_Machine_take 20 = .ok (.if_icmp .le 17, 3) := by decide +kernel
theorem d_Machine_take_23 : decode b_Machine_take 23 = .ok (.iload_n 1, 1) := by decide +kernel
theorem d_Machine_take_24 : decode b_Machine_take 24 = .ok (.ldc 110, 2) := by decide +kernel
theorem d_Machine_take_26 : decode b_Machine_take 26 = .ok (.if_icmp .ge 11, 3) := by decide +kernel
theorem d_Machine_take_29 : decode b_Machine_take 29 = .ok (.aload_n 0, 1) := by decide +kernel
theorem d_Machine_take_30 : decode b_Machine_take 30 = .ok (.iload_n 1, 1) := by decide +kernel
theorem d_Machine_take_31 : decode b_Machine_take 31 = .ok (.ldc 114, 2) := by decide +kernel
theorem d_Machine_take_33 : decode b_Machine_take 33 = .ok (.isub, 1) := by decide +kernel
theorem d_Machine_take_34 : decode b_Machine_take 34 = .ok (.invokevirtual 115, 3) := by decide +kernel
theorem d_Machine_take_37 : decode b_Machine_take 37 = .ok (.return_, 1) := by decide +kernel
theorem d_Machine_leave_0 : decode b_Machine_leave 0 = .ok (.aload_n 0, 1) := by decide +kernel
theorem d_Machine_leave_1 : decode b_Machine_leave 1 = .ok (.getfield 18, 3) := by decide +kernel
theorem d_Machine_leave_4 : decode b_Machine_leave 4 = .ok (.getfield 130, 3) := by decide +kernel
theorem d_Machine_leave_7 : decode b_Machine_leave 7 = .ok (.iconst 1, 1) := by decide +kernel
theorem d_Machine_leave_8 : decode b_Machine_leave 8 = .ok (.isub, 1) := by decide +kernel
theorem d_Machine_leave_9 : decode b_Machine_leave 9 = .ok (.istore_n 2, 1) := by decide +kernel
theorem d_Machine_leave_10 : decode b_Machine_leave 10 = .ok (.iload_n 2, 1) := by decide +kernel
theorem d_Machine_leave_11 : decode b_Machine_leave 11 = .ok (.iload_n 1, 1) := by decide +kernel
theorem d_Machine_leave_12 : decode b_Machine_leave 12 = .ok (.if_icmp .lt 128, 3) := by decide +kernel
theorem d_Machine_leave_15 : decode b_Machine_leave 15 = .ok (.iload_n 2, 1) := by decide +kernel
theorem d_Machine_leave_16 : decode b_Machine_leave 16 = .ok (.ifCond .lt 124, 3) := by decide +kernel
theorem d_Machine_leave_19 : decode b_Machine_leave 19 = .ok (.aload_n 0, 1) := by decide +kernel
theorem d_Machine_leave_20 : decode b_Machine_leave 20 = .ok (.getfield 18, 3) := by decide +kernel
theorem d_Machine_leave_23 : decode b_Machine_leave 23 = .ok (.getfield 133, 3) := by decide +kernel
theorem d_Machine_leave_26 : decode b_Machine_leave 26 = .ok (.iload_n 2, 1) := by decide +kernel
theorem d_Machine_leave_27 : decode b_Machine_leave 27 = .ok (.iaload, 1) := by decide +kernel
theorem d_Machine_leave_28 : decode b_Machine_leave 28 = .ok (.bipush 7, 2) := by decide +kernel
theorem d_Machine_leave_30 : decode b_Machine_leave 30 = .ok (.if_icmp .ne 22, 3) := by decide +kernel
theorem d_Machine_leave_33 : decode b_Machine_leave 33 = .ok (.aload_n 0, 1) := by decide +kernel
theorem d_Machine_leave_34 : decode b_Machine_leave 34 = .ok (.getfield 34, 3) := by decide +kernel
theorem d_Machine_leave_37 : decode b_Machine_leave 37 = .ok (.aload_n 0, 1) := by decide +kernel
theorem d_Machine_leave_38 : decode b_Machine_leave 38 = .ok (.getfield 18, 3) := by decide +kernel
theorem d_Machine_leave_41 : decode b_Machine_leave 41 = .ok (.getfield 137, 3) := by decide +kernel
theorem d_Machine_leave_44 : decode b_Machine_leave 44 = .ok (.iload_n 2, 1) := by decide +kernel
theorem d_Machine_leave_45 : decode b_Machine_leave 45 = .ok (.iaload, 1) := by decide +kernel
theorem d_Machine_leave_46 : decode b_Machine_leave 46 = .ok (.putfield 140, 3) := by decide +kernel
theorem d_Machine_leave_49 : decode b_Machine_leave 49 = .ok (.goto 45, 3) := by decide +kernel
theorem d_Machine_leave_52 : decode b_Machine_leave 52 = .ok (.aload_n 0, 1) := by decide +kernel
theorem d_Machine_leave_53 : decode b_Machine_leave 53 = .ok (.getfield 18, 3) := by decide +kernel
theorem d_Machine_leave_56 : decode b_Machine_leave 56 = .ok (.getfield 133, 3) := by decide +kernel
theorem d_Machine_leave_59 : decode b_Machine_leave 59 = .ok (.iload_n 2, 1) := by decide +kernel
theorem d_Machine_leave_60 : decode b_Machine_leave 60 = .ok (.iaload, 1) := by decide +kernel
theorem d_Machine_leave_61 : decode b_Machine_leave 61 = .ok (.iconst 1, 1) := by decide +kernel
theorem d_Machine_leave_62 : decode b_Machine_leave 62 = .ok (.if_icmp .ne 32, 3) := by decide +kernel
theorem d_Machine_leave_65 : decode b_Machine_leave 65 = .ok (.aload_n 0, 1) := by decide +kernel
theorem d_Machine_leave_66 : decode b_Machine_leave 66 = .ok (.getfield 26, 3) := by decide +kernel
theorem d_Machine_leave_69 : decode b_Machine_leave 69 = .ok (.aload_n 0, 1) := by decide +kernel
theorem d_Machine_leave_70 : decode b_Machine_leave 70 = .ok (.getfield 18, 3) := by decide +kernel
theorem d_Machine_leave_73 : decode b_Machine_leave 73 = .ok (.getfield 145, 3) := by decide +kernel
theorem d_Machine_leave_76 : decode b_Machine_leave 76 = .ok (.iload_n 2, 1) := by decide +kernel
theorem d_Machine_leave_77 : decode b_Machine_leave 77 = .ok (.iaload, 1) := by decide +kernel
theorem d_Machine_leave_78 : decode b_Machine_leave 78 = .ok (.invokevirtual 52, 3) := by decide +kernel
theorem d_Machine_leave_81 : decode b_Machine_leave 81 = .ok (.aload_n 0, 1) := by decide +kernel
theorem d_Machine_leave_82 : decode b_Machine_leave 82 = .ok (.getfield 18, 3) := by decide +kernel
theorem d_Machine_leave_85 : decode b_Machine_leave 85 = .ok (.dup, 1) := by decide +kernel
theorem d_Machine_leave_86 : decode b_Machine_leave 86 = .ok (.getfield 148, 3) := by decide +kernel
theorem d_Machine_leave_89 : decode b_Machine_leave 89 = .ok (.iconst 1, 1) := by decide +kernel
theorem d_Machine_leave_90 : decode b_Machine_leave 90 = .ok (.isub, 1) := by decide +kernel
theorem d_Machine_leave_91 : decode b_Machine_leave 91 = .ok (.putfield 148, 3) := by decide +kernel
theorem d_Machine_leave_94 : decode b_Machine_leave 94 = .ok (.aload_n 0, 1) := by decide +kernel
theorem d_Machine_leave_95 : decode b_Machine_leave 95 = .ok (.getfield 22, 3) := by decide +kernel
theorem d_Machine_leave_98 : decode b_Machine_leave 98 = .ok (.aload_n 0, 1) := by decide +kernel
theorem d_Machine_leave_99 : decode b_Machine_leave 99 = .ok (.getfield 18, 3) := by decide +kernel
theorem d_Machine_leave_102 : decode b_Machine_leave 102 = .ok (.getfield 151, 3) := by decide +kernel
theorem d_Machine_leave_105 : decode b_Machine_leave 105 = .ok (.iload_n 2, 1) := by decide +kernel
theorem d_Machine_leave_106 : decode b_Machine_leave 106 = .ok (.iaload, 1) := by decide +kernel
theorem d_Machine_leave_107 : decode b_Machine_leave 107 = .ok (.putfield 42, 3) := by decide +kernel
theorem d_Machine_leave_110 : decode b_Machine_leave 110 = .ok (.aload_n 0, 1) := by decide +kernel
theorem d_Machine_leave_111 : decode b_Machine_leave 111 = .ok (.getfield 22, 3) := by decide +kernel
theorem d_Machine_leave_114 : decode b_Machine_leave 114 = .ok (.aload_n 0, 1) := by decide +kernel
theorem d_Machine_leave_115 : decode b_Machine_leave 115 = .ok (.getfield 18, 3) := by decide +kernel
theorem d_Machine_leave_118 : decode b_Machine_leave 118 = .ok (.getfield 154, 3) := by decide +kernel
theorem d_Machine_leave_121 : decode b_Machine_leave 121 = .ok (.iload_n 2, 1) := by decide +kernel
theorem d_Machine_leave_122 : decode b_Machine_leave 122 = .ok (.iaload, 1) := by decide +kernel
theorem d_Machine_leave_123 : decode b_Machine_leave 123 = .ok (.putfield 157, 3) := by decide +kernel
theorem d_Machine_leave_126 : decode b_Machine_leave 126 = .ok (.aload_n 0, 1) := by decide +kernel
theorem d_Machine_leave_127 : decode b_Machine_leave 127 = .ok (.getfield 18, 3) := by decide +kernel
theorem d_Machine_leave_130 : decode b_Machine_leave 130 = .ok (.iload_n 2, 1) := by decide +kernel
theorem d_Machine_leave_131 : decode b_Machine_leave 131 = .ok (.putfield 130, 3) := by decide +kernel
theorem d_Machine_leave_134 : decode b_Machine_leave 134 = .ok (.iinc 2 (-1), 3) := by decide +kernel
theorem d_Machine_leave_137 : decode b_Machine_leave 137 = .ok (.goto (-127), 3) := by decide +kernel
theorem d_Machine_leave_140 : decode b_Machine_leave 140 = .ok (.return_, 1) := by decide +kernel
theorem lk_Machine_154 : Cond.fieldLink "TurtleWorld$Machine" 154 "TurtleWorld$Line" "values" "[I" ∈ tw_T := tw_i3 34 (by decide +kernel) (by decide +kernel)
theorem lk_Machine_157 : Cond.fieldLink "TurtleWorld$Machine" 157 "TurtleWorld$Waiting" "height" "I" ∈ tw_T := tw_i3 102 (by decide +kernel) (by decide +kernel)
theorem d_Machine_finishLine_0 : decode b_Machine_finishLine 0 = .ok (.aload_n 0, 1) := by decide +kernel
theorem d_Machine_finishLine_1 : decode b_Machine_finishLine 1 = .ok (.iconst 0, 1) := by decide +kernel
theorem d_Machine_finishLine_2 : decode b_Machine_finishLine 2 = .ok (.invokevirtual 87, 3) := by decide +kernel
theorem d_Machine_finishLine_5 : decode b_Machine_finishLine 5 = .ok (.aload_n 0, 1) := by decide +kernel
theorem d_Machine_finishLine_6 : decode b_Machine_finishLine 6 = .ok (.getfield 22, 3) := by decide +kernel
theorem d_Machine_finishLine_9 : decode b_Machine_finishLine 9 = .ok (.invokevirtual 51, 3) := by decide +kernel
theorem d_Machine_finishLine_12 : decode b_Machine_finishLine 12 = .ok (.aload_n 0, 1) := by decide +kernel
theorem d_Machine_finishLine_13 : decode b_Machine_finishLine 13 = .ok (.getfield 18, 3) := by decide +kernel
theorem d_Machine_finishLine_16 : decode b_Machine_finishLine 16 = .ok (.iload_n 1, 1) := by decide +kernel
theorem d_Machine_finishLine_17 : decode b_Machine_finishLine 17 = .ok (.putfield 74, 3) := by decide +kernel
theorem d_Machine_finishLine_20 : decode b_Machine_finishLine 20 = .ok (.aload_n 0, 1) := by decide +kernel
theorem d_Machine_finishLine_21 : decode b_Machine_finishLine 21 = .ok (.getfield 18, 3) := by decide +kernel
theorem d_Machine_finishLine_24 : decode b_Machine_finishLine 24 = .ok (.iload_n 2, 1) := by decide +kernel
theorem d_Machine_finishLine_25 : decode b_Machine_finishLine 25 = .ok (.putfield 90, 3) := by decide +kernel
theorem d_Machine_finishLine_28 : decode b_Machine_finishLine 28 = .ok (.return_, 1) := by decide +kernel
theorem lk_Machine_87 : Cond.methodLink "TurtleWorld$Machine" 87 ⟨"TurtleWorld$Machine", "leave", "(I)V"⟩ ∈ tw_T := tw_i5 143 (by decide +kernel) (by decide +kernel)
theorem in_Machine_leave : Cond.instanceMethod ⟨"TurtleWorld$Machine", "leave", "(I)V"⟩ ∈ tw_T := tw_i5 145 (by decide +kernel) (by decide +kernel)
theorem sel_Machine_leave : Cond.selects "TurtleWorld$Machine" ⟨"TurtleWorld$Machine", "leave", "(I)V"⟩ ⟨"TurtleWorld$Machine", "leave", "(I)V"⟩ ∈ tw_T := tw_inS 44 (by decide +kernel) (by decide +kernel)
theorem lk_Machine_51 : Cond.methodLink "TurtleWorld$Machine" 51 ⟨"TurtleWorld$Waiting", "begin", "()V"⟩ ∈ tw_T := tw_i5 8 (by decide +kernel) (by decide +kernel)
theorem in_Waiting_begin : Cond.instanceMethod ⟨"TurtleWorld$Waiting", "begin", "()V"⟩ ∈ tw_T := tw_i5 9 (by decide +kernel) (by decide +kernel)
theorem sel_Waiting_begin : Cond.selects "TurtleWorld$Waiting" ⟨"TurtleWorld$Waiting", "begin", "()V"⟩ ⟨"TurtleWorld$Waiting", "begin", "()V"⟩ ∈ tw_T := tw_i5 10 (by decide +kernel) (by decide +kernel)
theorem lk_Machine_90 : Cond.fieldLink "TurtleWorld$Machine" 90 "TurtleWorld$Line" "error" "I" ∈ tw_T := tw_i2 238 (by decide +kernel) (by decide +kernel)
theorem d_Machine_finishList_0 : decode b_Machine_finishList 0 = .ok (.aload_n 0, 1) := by decide +kernel
theorem d_Machine_finishList_1 : decode b_Machine_finishList 1 = .ok (.getfield 18, 3) := by decide +kernel
theorem d_Machine_finishList_4 : decode b_Machine_finishList 4 = .ok (.getfield 130, 3) := by decide +kernel
theorem d_Machine_finishList_7 : decode b_Machine_finishList 7 = .ok (.iconst 1, 1) := by decide +kernel
theorem d_Machine_finishList_8 : decode b_Machine_finishList 8 = .ok (.isub, 1) := by decide +kernel
theorem d_Machine_finishList_9 : decode b_Machine_finishList 9 = .ok (.istore_n 1, 1) := by decide +kernel
theorem d_Machine_finishList_10 : decode b_Machine_finishList 10 = .ok (.iload_n 1, 1) := by decide +kernel
theorem d_Machine_finishList_11 : decode b_Machine_finishList 11 = .ok (.ifCond .ge 6, 3) := by decide +kernel
theorem d_Machine_finishList_14 : decode b_Machine_finishList 14 = .ok (.ldc 160, 2) := by decide +kernel
theorem d_Machine_finishList_16 : decode b_Machine_finishList 16 = .ok (.ireturn, 1) := by decide +kernel
theorem d_Machine_finishList_17 : decode b_Machine_finishList 17 = .ok (.aload_n 0, 1) := by decide +kernel
theorem d_Machine_finishList_18 : decode b_Machine_finishList 18 = .ok (.getfield 18, 3) := by decide +kernel
theorem d_Machine_finishList_21 : decode b_Machine_finishList 21 = .ok (.getfield 133, 3) := by decide +kernel
theorem d_Machine_finishList_24 : decode b_Machine_finishList 24 = .ok (.iload_n 1, 1) := by decide +kernel
theorem d_Machine_finishList_25 : decode b_Machine_finishList 25 = .ok (.iaload, 1) := by decide +kernel
theorem d_Machine_finishList_26 : decode b_Machine_finishList 26 = .ok (.tableswitch 171 0 10 #[58, 171, 171, 67, 146, 103, 171, 171, 171, 151, 161], 58) := by decide +kernel
theorem d_Machine_finishList_84 : decode b_Machine_finishList 84 = .ok (.aload_n 0, 1) := by decide +kernel
theorem d_Machine_finishList_85 : decode b_Machine_finishList 85 = .ok (.iconst 2, 1) := by decide +kernel
theorem d_Machine_finishList_86 : decode b_Machine_finishList 86 = .ok (.iconst 0, 1) := by decide +kernel
theorem d_Machine_finishList_87 : decode b_Machine_finishList 87 = .ok (.invokevirtual 106, 3) := by decide +kernel
theorem d_Machine_finishList_90 : decode b_Machine_finishList 90 = .ok (.ldc 110, 2) := by decide +kernel
theorem d_Machine_finishList_92 : decode b_Machine_finishList 92 = .ok (.ireturn, 1) := by decide +kernel
theorem d_Machine_finishList_93 : decode b_Machine_finishList 93 = .ok (.aload_n 0, 1) := by decide +kernel
theorem d_Machine_finishList_94 : decode b_Machine_finishList 94 = .ok (.getfield 18, 3) := by decide +kernel
theorem d_Machine_finishList_97 : decode b_Machine_finishList 97 = .ok (.getfield 255, 3) := by decide +kernel
theorem d_Machine_finishList_100 : decode b_Machine_finishList 100 = .ok (.iload_n 1, 1) := by decide +kernel
theorem d_Machine_finishList_101 : decode b_Machine_finishList 101 = .ok (.iaload, 1) := by decide +kernel
theorem d_Machine_finishList_102 : decode b_Machine_finishList 102 = .ok (.aload_n 0, 1) := by decide +kernel
theorem d_Machine_finishList_103 : decode b_Machine_finishList 103 = .ok (.getfield 18, 3) := by decide +kernel
theorem d_Machine_finishList_106 : decode b_Machine_finishList 106 = .ok (.getfield 258, 3) := by decide +kernel
theorem d_Machine_finishList_109 : decode b_Machine_finishList 109 = .ok (.iload_n 1, 1) := by decide +kernel
theorem d_Machine_finishList_110 : decode b_Machine_finishList 110 = .ok (.iaload, 1) := by decide +kernel
theorem d_Machine_finishList_111 : decode b_Machine_finishList 111 = .ok (.if_icmp .ge 10, 3) := by decide +kernel
theorem d_Machine_finishList_114 : decode b_Machine_finishList 114 = .ok (.aload_n 0, 1) := by decide +kernel
theorem d_Machine_finishList_115 : decode b_Machine_finishList 115 = .ok (.invokevirtual 261, 3) := by decide +kernel
theorem d_Machine_finishList_118 : decode b_Machine_finishList 118 = .ok (.goto 10, 3) := by decide +kernel
theorem d_Machine_finishList_121 : decode b_Machine_finishList 121 = .ok (.aload_n 0, 1) := by decide +kernel
theorem d_Machine_finishList_122 : decode b_Machine_finishList 122 = .ok (.iload_n 1, 1) := by decide +kernel
theorem d_Machine_finishList_123 : decode b_Machine_finishList 123 = .ok (.ldc 114, 2) := by decide +kernel
theorem d_Machine_finishList_125 : decode b_Machine_finishList 125 = .ok (.invokevirtual 264, 3) := by decide +kernel
theorem d_Machine_finishList_128 : decode b_Machine_finishList 128 = .ok (.ireturn, 1) := by decide +kernel
theorem d_Machine_finishList_129 : decode b_Machine_finishList 129 = .ok (.aload_n 0, 1) := by decide +kernel
theorem d_Machine_finishList_130 : decode b_Machine_finishList 130 = .ok (.getfield 18, 3) := by decide +kernel
theorem d_Machine_finishList_133 : decode b_Machine_finishList 133 = .ok (.getfield 255, 3) := by decide +kernel
theorem d_Machine_finishList_136 : decode b_Machine_finishList 136 = .ok (.iload_n 1, 1) := by decide +kernel
theorem d_Machine_finishList_137 : decode b_Machine_finishList 137 = .ok (.iaload, 1) := by decide +kernel
theorem d_Machine_finishList_138 : decode b_Machine_finishList 138 = .ok (.aload_n 0, 1) := by decide +kernel
theorem d_Machine_finishList_139 : decode b_Machine_finishList 139 = .ok (.getfield 15, 3) := by decide +kernel
theorem d_Machine_finishList_142 : decode b_Machine_finishList 142 = .ok (.aload_n 0, 1) := by decide +kernel
theorem d_Machine_finishList_143 : decode b_Machine_finishList 143 = .ok (.getfield 18, 3) := by decide +kernel
theorem d_Machine_finishList_146 : decode b_Machine_finishList 146 = .ok (.getfield 267, 3) := by decide +kernel
theorem d_Machine_finishList_149 : decode b_Machine_finishList 149 = .ok (.iload_n 1, 1) := by decide +kernel
theorem d_Machine_finishList_150 : decode b_Machine_finishList 150 = .ok (.iaload, 1) := by decide +kernel
theorem d_Machine_finishList_151 : decode b_Machine_finishList 151 = .ok (.invokevirtual 221, 3) := by decide +kernel
theorem d_Machine_finishList_154 : decode b_Machine_finishList 154 = .ok (.if_icmp .ge 10, 3) := by decide +kernel
theorem d_Machine_finishList_157 : decode b_Machine_finishList 157 = .ok (.aload_n 0, 1) := by decide +kernel
theorem d_Machine_finishList_158 : decode b_Machine_finishList 158 = .ok (.invokevirtual 261, 3) := by decide +kernel
theorem d_Machine_finishList_161 : decode b_Machine_finishList 161 = .ok (.goto 10, 3) := by decide +kernel
theorem d_Machine_finishList_164 : decode b_Machine_finishList 164 = .ok (.aload_n 0, 1) := by decide +kernel
theorem d_Machine_finishList_165 : decode b_Machine_finishList 165 = .ok (.iload_n 1, 1) := by decide +kernel
theorem d_Machine_finishList_166 : decode b_Machine_finishList 166 = .ok (.ldc 114, 2) := by decide +kernel
theorem d_Machine_finishList_168 : decode b_Machine_finishList 168 = .ok (.invokevirtual 264, 3) := by decide +kernel
theorem d_Machine_finishList_171 : decode b_Machine_finishList 171 = .ok (.ireturn, 1) := by decide +kernel
theorem d_Machine_finishList_172 : decode b_Machine_finishList 172 = .ok (.aload_n 0, 1) := by decide +kernel
theorem d_Machine_finishList_173 : decode b_Machine_finishList 173 = .ok (.invokevirtual 261, 3) := by decide +kernel
theorem d_Machine_finishList_176 : decode b_Machine_finishList 176 = .ok (.ireturn, 1) := by decide +kernel
theorem d_Machine_finishList_177 : decode b_Machine_finishList 177 = .ok (.aload_n 0, 1) := by decide +kernel
theorem d_Machine_finishList_178 : decode b_Machine_finishList 178 = .ok (.iload_n 1, 1) := by decide +kernel
theorem d_Machine_finishList_179 : decode b_Machine_finishList 179 = .ok (.aload_n 0, 1) := by decide +kernel
theorem d_Machine_finishList_180 : decode b_Machine_finishList 180 = .ok (.getfield 111, 3) := by decide +kernel
theorem d_Machine_finishList_183 : decode b_Machine_finishList 183 = .ok (.invokevirtual 270, 3) := by decide +kernel
theorem d_Machine_finishList_186 : decode b_Machine_finishList 186 = .ok (.ireturn, 1) := by decide +kernel
theorem d_Machine_finishList_187 : decode b_Machine_finishList 187 = .ok (.aload_n 0, 1) := by decide +kernel
theorem d_Machine_finishList_188 : decode b_Machine_finishList 188 = .ok (.iload_n 1, 1) := by decide +kernel
theorem d_Machine_finishList_189 : decode b_Machine_finishList 189 = .ok (.aload_n 0, 1) := by decide +kernel
theorem d_Machine_finishList_190 : decode b_Machine_finishList 190 = .ok (.getfield 111, 3) := by decide +kernel
theorem d_Machine_finishList_193 : decode b_Machine_finishList 193 = .ok (.invokevirtual 273, 3) := by decide +kernel
theorem d_Machine_finishList_196 : decode b_Machine_finishList 196 = .ok (.ireturn, 1) := by decide +kernel
theorem d_Machine_finishList_197 : decode b_Machine_finishList 197 = .ok (.aload_n 0, 1) := by decide +kernel
theorem d_Machine_finishList_198 : decode b_Machine_finishList 198 = .ok (.iload_n 1, 1) := by decide +kernel
theorem d_Machine_finishList_199 : decode b_Machine_finishList 199 = .ok (.aload_n 0, 1) := by decide +kernel
theorem d_Machine_finishList_200 : decode b_Machine_finishList 200 = .ok (.getfield 111, 3) := by decide +kernel
theorem d_Machine_finishList_203 : decode b_Machine_finishList 203 = .ok (.invokevirtual 264, 3) := by decide +kernel
theorem d_Machine_finishList_206 : decode b_Machine_finishList 206 = .ok (.ireturn, 1) := by decide +kernel
theorem lk_Machine_106 : Cond.methodLink "TurtleWorld$Machine" 106 ⟨"TurtleWorld$Machine", "finishLine", "(II)V"⟩ ∈ tw_T := tw_i5 139 (by decide +kernel) (by decide +kernel)
theorem in_Machine_finishLine : Cond.instanceMethod ⟨"TurtleWorld$Machine", "finishLine", "(II)V"⟩ ∈ tw_T := tw_i5 140 (by decide +kernel) (by decide +kernel)
theorem sel_Machine_finishLine : Cond.selects "TurtleWorld$Machine" ⟨"TurtleWorld$Machine", "finishLine", "(II)V"⟩ ⟨"TurtleWorld$Machine", "finishLine", "(II)V"⟩ ∈ tw_T := tw_i5 141 (by decide +kernel) (by decide +kernel)
theorem d_Machine_advance_0 : decode b_Machine_advance 0 = .ok (.iconst 0, 1) := by decide +kernel
theorem d_Machine_advance_1 : decode b_Machine_advance 1 = .ok (.istore_n 1, 1) := by decide +kernel
theorem d_Machine_advance_2 : decode b_Machine_advance 2 = .ok (.iload_n 1, 1) := by decide +kernel
theorem d_Machine_advance_3 : decode b_Machine_advance 3 = .ok (.ldc 93, 2) := by decide +kernel
theorem d_Machine_advance_5 : decode b_Machine_advance 5 = .ok (.if_icmp .ge 67, 3) := by decide +kernel
theorem d_Machine_advance_8 : decode b_Machine_advance 8 = .ok (.aload_n 0, 1) := by decide +kernel
theorem d_Machine_advance_9 : decode b_Machine_advance 9 = .ok (.getfield 18, 3) := by decide +kernel
theorem d_Machine_advance_12 : decode b_Machine_advance 12 = .ok (.getfield 74, 3) := by decide +kernel
theorem d_Machine_advance_15 : decode b_Machine_advance 15 = .ok (.iconst 1, 1) := by decide +kernel
theorem d_Machine_advance_16 : decode b_Machine_advance 16 = .ok (.if_icmp .ne 56, 3) := by decide +kernel
theorem d_Machine_advance_19 : decode b_Machine_advance 19 = .ok (.aload_n 0, 1) := by decide +kernel
theorem d_Machine_advance_20 : decode b_Machine_advance 20 = .ok (.getfield 22, 3) := by decide +kernel
theorem d_Machine_advance_23 : decode b_Machine_advance 23 = .ok (.getfield 94, 3) := by decide +kernel
theorem d_Machine_advance_26 : decode b_Machine_advance 26 = .ok (.ifCond .ne 46, 3) := by decide +kernel
theorem d_Machine_advance_29 : decode b_Machine_advance 29 = .ok (.aload_n 0, 1) := by decide +kernel
theorem d_Machine_advance_30 : decode b_Machine_advance 30 = .ok (.aload_n 0, 1) := by decide +kernel
theorem d_Machine_advance_31 : decode b_Machine_advance 31 = .ok (.getfield 62, 3) := by decide +kernel
theorem d_Machine_advance_34 : decode b_Machine_advance 34 = .ok (.ifCond .ne 10, 3) := by decide +kernel
theorem d_Machine_advance_37 : decode b_Machine_advance 37 = .ok (.aload_n 0, 1) := by decide +kernel
theorem d_Machine_advance_38 : decode b_Machine_advance 38 = .ok (.invokevirtual 97, 3) := by decide +kernel
theorem d_Machine_advance_41 : decode b_Machine_advance 41 = .ok (.goto 22, 3) := by decide +kernel
theorem d_Machine_advance_44 : decode b_Machine_advance 44 = .ok (.aload_n 0, 1) := by decide +kernel
theorem d_Machine_advance_45 : decode b_Machine_advance 45 = .ok (.getfield 62, 3) := by decide +kernel
theorem d_Machine_advance_48 : decode b_Machine_advance 48 = .ok (.iconst 1, 1) := by decide +kernel
theorem d_Machine_advance_49 : decode b_Machine_advance 49 = .ok (.if_icmp .ne 10, 3) := by decide +kernel
theorem d_Machine_advance_52 : decode b_Machine_advance 52 = .ok (.aload_n 0, 1) := by decide +kernel
theorem d_Machine_advance_53 : decode b_Machine_advance 53 = .ok (.invokevirtual 100, 3) := by decide +kernel
theorem d_Machine_advance_56 : decode b_Machine_advance 56 = .ok (.goto 7, 3) := by decide +kernel
theorem d_Machine_advance_59 : decode b_Machine_advance 59 = .ok (.aload_n 0, 1) := by decide +kernel
theorem d_Machine_advance_60 : decode b_Machine_advance 60 = .ok (.invokevirtual 103, 3) := by decide +kernel
theorem d_Machine_advance_63 : decode b_Machine_advance 63 = .ok (.invokevirtual 84, 3) := by decide +kernel
theorem d_Machine_advance_66 : decode b_Machine_advance 66 = .ok (.iinc 1 1, 3) := by decide +kernel
theorem d_Machine_advance_69 : decode b_Machine_advance 69 = .ok (.goto (-67), 3) := by decide +kernel
theorem d_Machine_advance_72 : decode b_Machine_advance 72 = .ok (.aload_n 0, 1) := by decide +kernel
theorem d_Machine_advance_73 : decode b_Machine_advance 73 = .ok (.getfield 18, 3) := by decide +kernel
theorem d_Machine_advance_76 : decode b_Machine_advance 76 = .ok (.getfield 74, 3) := by decide +kernel
theorem d_Machine_advance_79 : decode b_Machine_advance 79 = .ok (.iconst 1, 1) := by decide +kernel
theorem d_Machine_advance_80 : decode b_Machine_advance 80 = .ok (.if_icmp .ne 23, 3) := by decide +kernel
theorem d_Machine_advance_83 : decode b_Machine_advance 83 = .ok (.aload_n 0, 1) := by decide +kernel
theorem d_Machine_advance_84 : decode b_Machine_advance 84 = .ok (.getfield 18, 3) := by decide +kernel
theorem d_Machine_advance_87 : decode b_Machine_advance 87 = .ok (.getfield 77, 3) := by decide +kernel
theorem d_Machine_advance_90 : decode b_Machine_advance 90 = .ok (.sipush 20000, 3) := by decide +kernel
theorem d_Machine_advance_93 : decode b_Machine_advance 93 = .ok (.if_icmp .lt 10, 3) := by decide +kernel
theorem d_Machine_advance_96 : decode b_Machine_advance 96 = .ok (.aload_n 0, 1) := by decide +kernel
theorem d_Machine_advance_97 : decode b_Machine_advance 97 = .ok (.iconst 3, 1) := by decide +kernel
theorem d_Machine_advance_98 : decode b_Machine_advance 98 = .ok (.bipush 13, 2) := by decide +kernel
theorem d_Machine_advance_100 : decode b_Machine_advance 100 = .ok (.invokevirtual 106, 3) := by decide +kernel
theorem d_Machine_advance_103 : decode b_Machine_advance 103 = .ok (.return_, 1) := by decide +kernel
theorem lk_Machine_93 : Cond.constant "TurtleWorld$Machine" 93 1000000 ∈ tw_T := tw_i5 25 (by decide +kernel) (by decide +kernel)
theorem lk_Machine_97 : Cond.methodLink "TurtleWorld$Machine" 97 ⟨"TurtleWorld$Machine", "meet", "()I"⟩ ∈ tw_T := tw_i5 26 (by decide +kernel) (by decide +kernel)
theorem in_Machine_meet : Cond.instanceMethod ⟨"TurtleWorld$Machine", "meet", "()I"⟩ ∈ tw_T := tw_i5 28 (by decide +kernel) (by decide +kernel)
theorem sel_Machine_meet : Cond.selects "TurtleWorld$Machine" ⟨"TurtleWorld$Machine", "meet", "()I"⟩ ⟨"TurtleWorld$Machine", "meet", "()I"⟩ ∈ tw_T := tw_inS 33 (by decide +kernel) (by decide +kernel)
theorem lk_Machine_84 : Cond.methodLink "TurtleWorld$Machine" 84 ⟨"TurtleWorld$Machine", "take", "(I)V"⟩ ∈ tw_T := tw_i5 172 (by decide +kernel) (by decide +kernel)
theorem in_Machine_take : Cond.instanceMethod ⟨"TurtleWorld$Machine", "take", "(I)V"⟩ ∈ tw_T := tw_i5 174 (by decide +kernel) (by decide +kernel)
theorem sel_Machine_take : Cond.selects "TurtleWorld$Machine" ⟨"TurtleWorld$Machine", "take", "(I)V"⟩ ⟨"TurtleWorld$Machine", "take", "(I)V"⟩ ∈ tw_T := tw_inS 50 (by decide +kernel) (by decide +kernel)
theorem lk_Machine_103 : Cond.methodLink "TurtleWorld$Machine" 103 ⟨"TurtleWorld$Machine", "finishList", "()I"⟩ ∈ tw_T := tw_i5 135 (by decide +kernel) (by decide +kernel)
theorem in_Machine_finishList : Cond.instanceMethod ⟨"TurtleWorld$Machine", "finishList", "()I"⟩ ∈ tw_T := tw_i5 137 (by decide +kernel) (by decide +kernel)
theorem sel_Machine_finishList : Cond.selects "TurtleWorld$Machine" ⟨"TurtleWorld$Machine", "finishList", "()I"⟩ ⟨"TurtleWorld$Machine", "finishList", "()I"⟩ ∈ tw_T := tw_inS 43 (by decide +kernel) (by decide +kernel)
