theorem d_Model_thrown_0 : decode b_Model_thrown 0 = .ok (.aload_n 0, 1) := by decide +kernel
theorem d_Model_thrown_1 : decode b_Model_thrown 1 = .ok (.getfield 1, 3) := by decide +kernel
theorem d_Model_thrown_4 : decode b_Model_thrown 4 = .ok (.ireturn, 1) := by decide +kernel
theorem d_Model_fault_0 : decode b_Model_fault 0 = .ok (.aload_n 0, 1) := by decide +kernel
theorem d_Model_fault_1 : decode b_Model_fault 1 = .ok (.iconst 0, 1) := by decide +kernel
theorem d_Model_fault_2 : decode b_Model_fault 2 = .ok (.putfield 1, 3) := by decide +kernel
theorem d_Model_fault_5 : decode b_Model_fault 5 = .ok (.aload_n 0, 1) := by decide +kernel
theorem d_Model_fault_6 : decode b_Model_fault 6 = .ok (.getfield 416, 3) := by decide +kernel
theorem d_Model_fault_9 : decode b_Model_fault 9 = .ok (.ifCond .ne 7, 3) := by decide +kernel
theorem d_Model_fault_12 : decode b_Model_fault 12 = .ok (.iconst (-1), 1) := by decide +kernel
theorem d_Model_fault_13 : decode b_Model_fault 13 = .ok (.goto 27, 3) := by decide +kernel
theorem d_Model_fault_16 : decode b_Model_fault 16 = .ok (.iload_n 1, 1) := by decide +kernel
theorem d_Model_fault_17 : decode b_Model_fault 17 = .ok (.ifCond .ne 10, 3) := by decide +kernel
theorem d_Model_fault_20 : decode b_Model_fault 20 = .ok (.aload_n 0, 1) := by decide +kernel
theorem d_Model_fault_21 : decode b_Model_fault 21 = .ok (.getfield 264, 3) := by decide +kernel
theorem d_Model_fault_24 : decode b_Model_fault 24 = .ok (.goto 16, 3) := by decide +kernel
theorem d_Model_fault_27 : decode b_Model_fault 27 = .ok (.iload_n 1, 1) := by decide +kernel
theorem d_Model_fault_28 : decode b_Model_fault 28 = .ok (.iconst 1, 1) := by decide +kernel
theorem d_Model_fault_29 : decode b_Model_fault 29 = .ok (.if_icmp .ne 10, 3) := by decide +kernel
theorem d_Model_fault_32 : decode b_Model_fault 32 = .ok (.aload_n 0, 1) := by decide +kernel
theorem d_Model_fault_33 : decode b_Model_fault 33 = .ok (.getfield 416, 3) := by decide +kernel
theorem d_Model_fault_36 : decode b_Model_fault 36 = .ok (.goto 4, 3) := by decide +kernel
theorem d_Model_fault_39 : decode b_Model_fault 39 = .ok (.iconst (-1), 1) := by decide +kernel
theorem d_Model_fault_40 : decode b_Model_fault 40 = .ok (.ireturn, 1) := by decide +kernel
theorem lk_Model_416 : Cond.fieldLink "TurtleWorldModel" 416 "TurtleWorldModel" "fault" "I" ∈ tw_T := tw_i8 153 (by decide +kernel) (by decide +kernel)
theorem lk_Model_264 : Cond.fieldLink "TurtleWorldModel" 264 "TurtleWorldModel" "faultPlace" "I" ∈ tw_T := tw_i8 154 (by decide +kernel) (by decide +kernel)
theorem d_Model_dotAt_0 : decode b_Model_dotAt 0 = .ok (.iload_n 1, 1) := by decide +kernel
theorem d_Model_dotAt_1 : decode b_Model_dotAt 1 = .ok (.bipush (-32), 2) := by decide +kernel
theorem d_Model_dotAt_3 : decode b_Model_dotAt 3 = .ok (.if_icmp .lt 21, 3) := by decide +kernel
theorem d_Model_dotAt_6 : decode b_Model_dotAt 6 = .ok (.iload_n 1, 1) := by decide +kernel
theorem d_Model_dotAt_7 : decode b_Model_dotAt 7 = .ok (.bipush 31, 2) := by decide +kernel
theorem d_Model_dotAt_9 : decode b_Model_dotAt 9 = .ok (.if_icmp .gt 15, 3) := by decide +kernel
theorem d_Model_dotAt_12 : decode b_Model_dotAt 12 = .ok (.iload_n 2, 1) := by decide +kernel
theorem d_Model_dotAt_13 : decode b_Model_dotAt 13 = .ok (.bipush (-32), 2) := by decide +kernel
theorem d_Model_dotAt_15 : decode b_Model_dotAt 15 = .ok (.if_icmp .lt 9, 3) := by decide +kernel
theorem d_Model_dotAt_18 : decode b_Model_dotAt 18 = .ok (.iload_n 2, 1) := by decide +kernel
theorem d_Model_dotAt_19 : decode b_Model_dotAt 19 = .ok (.bipush 31, 2) := by decide +kernel
theorem d_Model_dotAt_21 : decode b_Model_dotAt 21 = .ok (.if_icmp .le 7, 3) := by decide +kernel
theorem d_Model_dotAt_24 : decode b_Model_dotAt 24 = .ok (.iconst (-1), 1) := by decide +kernel
theorem d_Model_dotAt_25 : decode b_Model_dotAt 25 = .ok (.goto 20, 3) := by decide +kernel
theorem d_Model_dotAt_28 : decode b_Model_dotAt 28 = .ok (.aload_n 0, 1) := by decide +kernel
theorem d_Model_dotAt_29 : decode b_Model_dotAt 29 = .ok (.getfield 222, 3) := by decide +kernel
theorem d_Model_dotAt_32 : decode b_Model_dotAt 32 = .ok (.bipush 64, 2) := by decide +kernel
theorem d_Model_dotAt_34 : decode b_Model_dotAt 34 = .ok (.iload_n 2, 1) := by decide +kernel
theorem d_Model_dotAt_35 : decode b_Model_dotAt 35 = .ok (.bipush 32, 2) := by decide +kernel
theorem d_Model_dotAt_37 : decode b_Model_dotAt 37 = .ok (.iadd, 1) := by decide +kernel
theorem d_Model_dotAt_38 : decode b_Model_dotAt 38 = .ok (.imul, 1) := by decide +kernel
theorem d_Model_dotAt_39 : decode b_Model_dotAt 39 = .ok (.iload_n 1, 1) := by decide +kernel
theorem d_Model_dotAt_40 : decode b_Model_dotAt 40 = .ok (.iadd, 1) := by decide +kernel
theorem d_Model_dotAt_41 : decode b_Model_dotAt 41 = .ok (.bipush 32, 2) := by decide +kernel
theorem d_Model_dotAt_43 : decode b_Model_dotAt 43 = .ok (.iadd, 1) := by decide +kernel
theorem d_Model_dotAt_44 : decode b_Model_dotAt 44 = .ok (.iaload, 1) := by decide +kernel
theorem d_Model_dotAt_45 : decode b_Model_dotAt 45 = .ok (.ireturn, 1) := by decide +kernel
theorem lk_Model_222 : Cond.fieldLink "TurtleWorldModel" 222 "TurtleWorldModel" "dots" "[I" ∈ tw_T := tw_i8 122 (by decide +kernel) (by decide +kernel)
theorem d_Model_dot_0 : decode b_Model_dot 0 = .ok (.aload_n 0, 1) := by decide +kernel
theorem d_Model_dot_1 : decode b_Model_dot 1 = .ok (.iconst 0, 1) := by decide +kernel
theorem d_Model_dot_2 : decode b_Model_dot 2 = .ok (.putfield 1, 3) := by decide +kernel
theorem d_Model_dot_5 : decode b_Model_dot 5 = .ok (.aload_n 0, 1) := by decide +kernel
theorem d_Model_dot_6 : decode b_Model_dot 6 = .ok (.iload_n 1, 1) := by decide +kernel
theorem d_Model_dot_7 : decode b_Model_dot 7 = .ok (.iload_n 2, 1) := by decide +kernel
theorem d_Model_dot_8 : decode b_Model_dot 8 = .ok (.invokevirtual 827, 3) := by decide +kernel
theorem d_Model_dot_11 : decode b_Model_dot 11 = .ok (.ireturn, 1) := by decide +kernel
theorem lk_Model_827 : Cond.methodLink "TurtleWorldModel" 827 ⟨"TurtleWorldModel", "dotAt", "(II)I"⟩ ∈ tw_T := tw_i11 49 (by decide +kernel) (by decide +kernel)
theorem in_Model_dotAt : Cond.instanceMethod ⟨"TurtleWorldModel", "dotAt", "(II)I"⟩ ∈ tw_T := tw_i11 51 (by decide +kernel) (by decide +kernel)
theorem sel_Model_dotAt : Cond.selects "TurtleWorldModel" ⟨"TurtleWorldModel", "dotAt", "(II)I"⟩ ⟨"TurtleWorldModel", "dotAt", "(II)I"⟩ ∈ tw_T := tw_inS 136 (by decide +kernel) (by decide +kernel)
theorem d_Model_ended_0 : decode b_Model_ended 0 = .ok (.aload_n 0, 1) := by decide +kernel
theorem d_Model_ended_1 : decode b_Model_ended 1 = .ok (.iconst 0, 1) := by decide +kernel
theorem d_Model_ended_2 : decode b_Model_ended 2 = .ok (.putfield 532, 3) := by decide +kernel
theorem d_Model_ended_5 : decode b_Model_ended 5 = .ok (.aload_n 0, 1) := by decide +kernel
theorem d_Model_ended_6 : decode b_Model_ended 6 = .ok (.iconst 0, 1) := by decide +kernel
theorem d_Model_ended_7 : decode b_Model_ended 7 = .ok (.putfield 535, 3) := by decide +kernel
theorem d_Model_ended_10 : decode b_Model_ended 10 = .ok (.aload_n 0, 1) := by decide +kernel
theorem d_Model_ended_11 : decode b_Model_ended 11 = .ok (.iconst 0, 1) := by decide +kernel
theorem d_Model_ended_12 : decode b_Model_ended 12 = .ok (.putfield 538, 3) := by decide +kernel
theorem d_Model_ended_15 : decode b_Model_ended 15 = .ok (.aload_n 0, 1) := by decide +kernel
theorem d_Model_ended_16 : decode b_Model_ended 16 = .ok (.getfield 541, 3) := by decide +kernel
theorem d_Model_ended_19 : decode b_Model_ended 19 = .ok (.ifCond .le 11, 3) := by decide +kernel
theorem d_Model_ended_22 : decode b_Model_ended 22 = .ok (.aload_n 0, 1) := by decide +kernel
theorem d_Model_ended_23 : decode b_Model_ended 23 = .ok (.aload_n 0, 1) := by decide +kernel
theorem d_Model_ended_24 : decode b_Model_ended 24 = .ok (.getfield 544, 3) := by decide +kernel
theorem d_Model_ended_27 : decode b_Model_ended 27 = .ok (.putfield 366, 3) := by decide +kernel
theorem d_Model_ended_30 : decode b_Model_ended 30 = .ok (.aload_n 0, 1) := by decide +kernel
theorem d_Model_ended_31 : decode b_Model_ended 31 = .ok (.iconst 0, 1) := by decide +kernel
theorem d_Model_ended_32 : decode b_Model_ended 32 = .ok (.putfield 541, 3) := by decide +kernel
theorem d_Model_ended_35 : decode b_Model_ended 35 = .ok (.return_, 1) := by decide +kernel
theorem lk_Model_532 : Cond.fieldLink "TurtleWorldModel" 532 "TurtleWorldModel" "levels" "I" ∈ tw_T := tw_i8 175 (by decide +kernel) (by decide +kernel)
theorem lk_Model_535 : Cond.fieldLink "TurtleWorldModel" 535 "TurtleWorldModel" "waiting" "I" ∈ tw_T := tw_i8 176 (by decide +kernel) (by decide +kernel)
theorem lk_Model_538 : Cond.fieldLink "TurtleWorldModel" 538 "TurtleWorldModel" "calls" "I" ∈ tw_T := tw_i8 177 (by decide +kernel) (by decide +kernel)
theorem lk_Model_541 : Cond.fieldLink "TurtleWorldModel" 541 "TurtleWorldModel" "asks" "I" ∈ tw_T := tw_i8 181 (by decide +kernel) (by decide +kernel)
theorem lk_Model_544 : Cond.fieldLink "TurtleWorldModel" 544 "TurtleWorldModel" "toldAhead" "I" ∈ tw_T := tw_i8 182 (by decide +kernel) (by decide +kernel)
theorem lk_Model_366 : Cond.fieldLink "TurtleWorldModel" 366 "TurtleWorldModel" "told" "I" ∈ tw_T := tw_i8 125 (by decide +kernel) (by decide +kernel)
theorem d_Model_stop_0 : decode b_Model_stop 0 = .ok (.aload_n 0, 1) := by decide +kernel
theorem d_Model_stop_1 : decode b_Model_stop 1 = .ok (.iconst 0, 1) := by decide +kernel
theorem d_Model_stop_2 : decode b_Model_stop 2 = .ok (.putfield 1, 3) := by decide +kernel
theorem d_Model_stop_5 : decode b_Model_stop 5 = .ok (.aload_n 0, 1) := by decide +kernel
theorem d_Model_stop_6 : decode b_Model_stop 6 = .ok (.getfield 494, 3) := by decide +kernel
theorem d_Model_stop_9 : decode b_Model_stop 9 = .ok (.iconst 1, 1) := by decide +kernel
theorem d_Model_stop_10 : decode b_Model_stop 10 = .ok (.if_icmp .eq 5, 3) := by decide +kernel
theorem d_Model_stop_13 : decode b_Model_stop 13 = .ok (.iconst 0, 1) := by decide +kernel
theorem d_Model_stop_14 : decode b_Model_stop 14 = .ok (.ireturn, 1) := by decide +kernel
theorem d_Model_stop_15 : decode b_Model_stop 15 = .ok (.aload_n 0, 1) := by decide +kernel
theorem d_Model_stop_16 : decode b_Model_stop 16 = .ok (.iconst 4, 1) := by decide +kernel
theorem d_Model_stop_17 : decode b_Model_stop 17 = .ok (.putfield 494, 3) := by decide +kernel
theorem d_Model_stop_20 : decode b_Model_stop 20 = .ok (.aload_n 0, 1) := by decide +kernel
theorem d_Model_stop_21 : decode b_Model_stop 21 = .ok (.invokevirtual 529, 3) := by decide +kernel
theorem d_Model_stop_24 : decode b_Model_stop 24 = .ok (.iconst 1, 1) := by decide +kernel
theorem d_Model_stop_25 : decode b_Model_stop 25 = .ok (.ireturn, 1) := by decide +kernel
theorem lk_Model_494 : Cond.fieldLink "TurtleWorldModel" 494 "TurtleWorldModel" "status" "I" ∈ tw_T := tw_i8 170 (by decide +kernel) (by decide +kernel)
theorem lk_Model_529 : Cond.methodLink "TurtleWorldModel" 529 ⟨"TurtleWorldModel", "ended", "()V"⟩ ∈ tw_T := tw_i11 176 (by decide +kernel) (by decide +kernel)
theorem in_Model_ended : Cond.instanceMethod ⟨"TurtleWorldModel", "ended", "()V"⟩ ∈ tw_T := tw_i11 178 (by decide +kernel) (by decide +kernel)
theorem sel_Model_ended : Cond.selects "TurtleWorldModel" ⟨"TurtleWorldModel", "ended", "()V"⟩ ⟨"TurtleWorldModel", "ended", "()V"⟩ ∈ tw_T := tw_inS 166 (by decide +kernel) (by decide +kernel)
theorem d_Model_fails_0 : decode b_Model_fails 0 = .ok (.aload_n 0, 1) := by decide +kernel
theorem d_Model_fails_1 : decode b_Model_fails 1 = .ok (.iconst 2, 1) := by decide +kernel
theorem d_Model_fails_2 : decode b_Model_fails 2 = .ok (.putfield 559, 3) := by decide +kernel
theorem d_Model_fails_5 : decode b_Model_fails 5 = .ok (.aload_n 0, 1) := by decide +kernel
theorem d_Model_fails_6 : decode b_Model_fails 6 = .ok (.iload_n 1, 1) := by decide +kernel
theorem d_Model_fails_7 : decode b_Model_fails 7 = .ok (.putfield 599, 3) := by decide +kernel
theorem d_Model_fails_10 : decode b_Model_fails 10 = .ok (.ldc2_w 7, 3) := by decide +kernel
theorem d_Model_fails_13 : decode b_Model_fails 13 = .ok (.lreturn, 1) := by decide +kernel
theorem lk_Model_559 : Cond.fieldLink "TurtleWorldModel" 559 "TurtleWorldModel" "leaves" "I" ∈ tw_T := tw_i8 180 (by decide +kernel) (by decide +kernel)
theorem lk_Model_599 : Cond.fieldLink "TurtleWorldModel" 599 "TurtleWorldModel" "errorNow" "I" ∈ tw_T := tw_i8 204 (by decide +kernel) (by decide +kernel)
theorem d_Model_waits_0 : decode b_Model_waits 0 = .ok (.aload_n 0, 1) := by decide +kernel
theorem d_Model_waits_1 : decode b_Model_waits 1 = .ok (.getfield 535, 3) := by decide +kernel
theorem d_Model_waits_4 : decode b_Model_waits 4 = .ok (.sipush 400, 3) := by decide +kernel
theorem d_Model_waits_7 : decode b_Model_waits 7 = .ok (.if_icmp .ne 12, 3) := by decide +kernel
theorem d_Model_waits_10 : decode b_Model_waits 10 = .ok (.aload_n 0, 1) := by decide +kernel
theorem d_Model_waits_11 : decode b_Model_waits 11 = .ok (.bipush 6, 2) := by decide +kernel
theorem d_Model_waits_13 : decode b_Model_waits 13 = .ok (.invokevirtual 596, 3) := by decide +kernel
theorem d_Model_waits_16 : decode b_Model_waits 16 = .ok (.pop2, 1) := by decide +kernel
theorem d_Model_waits_17 : decode b_Model_waits 17 = .ok (.iconst 0, 1) := by decide +kernel
theorem d_Model_waits_18 : decode b_Model_waits 18 = .ok (.ireturn, 1) := by decide +kernel
theorem d_Model_waits_19 : decode b_Model_waits 19 = .ok (.aload_n 0, 1) := by decide +kernel
theorem d_Model_waits_20 : decode b_Model_waits 20 = .ok (.dup, 1) := by decide +kernel
theorem d_Model_waits_21 : decode b_Model_waits 21 = .ok (.getfield 535, 3) := by decide +kernel
theorem d_Model_waits_24 : decode b_Model_waits 24 = .ok (.iconst 1, 1) := by decide +kernel
theorem d_Model_waits_25 : decode b_Model_waits 25 = .ok (.iadd, 1) := by decide +kernel
theorem d_Model_waits_26 : decode b_Model_waits 26 = .ok (.putfield 535, 3) := by decide +kernel
theorem d_Model_waits_29 : decode b_Model_waits 29 = .ok (.iconst 1, 1) := by decide +kernel
theorem d_Model_waits_30 : decode b_Model_waits 30 = .ok (.ireturn, 1) := by decide +kernel
theorem lk_Model_596 : Cond.methodLink "TurtleWorldModel" 596 ⟨"TurtleWorldModel", "fails", "(I)J"⟩ ∈ tw_T := tw_i10 160 (by decide +kernel) (by decide +kernel)
theorem in_Model_fails : Cond.instanceMethod ⟨"TurtleWorldModel", "fails", "(I)J"⟩ ∈ tw_T := tw_i10 162 (by decide +kernel) (by decide +kernel)
theorem sel_Model_fails : Cond.selects "TurtleWorldModel" ⟨"TurtleWorldModel", "fails", "(I)J"⟩ ⟨"TurtleWorldModel", "fails", "(I)J"⟩ ∈ tw_T := tw_inS 117 (by decide +kernel) (by decide +kernel)
theorem d_Model_makes_0 : decode b_Model_makes 0 = .ok (.aload_n 0, 1) := by decide +kernel
theorem d_Model_makes_1 : decode b_Model_makes 1 = .ok (.getfield 556, 3) := by decide +kernel
theorem d_Model_makes_4 : decode b_Model_makes 4 = .ok (.iload_n 1, 1) := by decide +kernel
theorem d_Model_makes_5 : decode b_Model_makes 5 = .ok (.iadd, 1) := by decide +kernel
theorem d_Model_makes_6 : decode b_Model_makes 6 = .ok (.sipush 30000, 3) := by decide +kernel
theorem d_Model_makes_9 : decode b_Model_makes 9 = .ok (.if_icmp .le 12, 3) := by decide +kernel
theorem d_Model_makes_12 : decode b_Model_makes 12 = .ok (.aload_n 0, 1) := by decide +kernel
theorem d_Model_makes_13 : decode b_Model_makes 13 = .ok (.bipush 8, 2) := by decide +kernel
theorem d_Model_makes_15 : decode b_Model_makes 15 = .ok (.invokevirtual 596, 3) := by decide +kernel
theorem d_Model_makes_18 : decode b_Model_makes 18 = .ok (.pop2, 1) := by decide +kernel
theorem d_Model_makes_19 : decode b_Model_makes 19 = .ok (.iconst 0, 1) := by decide +kernel
theorem d_Model_makes_20 : decode b_Model_makes 20 = .ok (.ireturn, 1) := by decide +kernel
theorem d_Model_makes_21 : decode b_Model_makes 21 = .ok (.aload_n 0, 1) := by decide +kernel
theorem d_Model_makes_22 : decode b_Model_makes 22 = .ok (.dup, 1) := by decide +kernel
theorem d_Model_makes_23 : decode b_Model_makes 23 = .ok (.getfield 556, 3) := by decide +kernel
theorem d_Model_makes_26 : decode b_Model_makes 26 = .ok (.iload_n 1, 1) := by decide +kernel
theorem d_Model_makes_27 : decode b_Model_makes 27 = .ok (.iadd, 1) := by decide +kernel
theorem d_Model_makes_28 : decode b_Model_makes 28 = .ok (.putfield 556, 3) := by decide +kernel
theorem d_Model_makes_31 : decode b_Model_makes 31 = .ok (.iconst 1, 1) := by decide +kernel
theorem d_Model_makes_32 : decode b_Model_makes 32 = .ok (.ireturn, 1) := by decide +kernel
theorem lk_Model_556 : Cond.fieldLink "TurtleWorldModel" 556 "TurtleWorldModel" "madeNow" "I" ∈ tw_T := tw_i8 174 (by decide +kernel) (by decide +kernel)
theorem d_Model_hasLevel_0 : decode b_Model_hasLevel 0 = .ok (.aload_n 0, 1) := by decide +kernel
theorem d_Model_hasLevel_1 : decode b_Model_hasLevel 1 = .ok (.getfield 532, 3) := by decide +kernel
theorem d_Model_hasLevel_4 : decode b_Model_hasLevel 4 = .ok (.sipush 150, 3) := by decide +kernel
theorem d_Model_hasLevel_7 : decode b_Model_hasLevel 7 = .ok (.if_icmp .ne 12, 3) := by decide +kernel
theorem d_Model_hasLevel_10 : decode b_Model_hasLevel 10 = .ok (.aload_n 0, 1) := by decide +kernel
theorem d_Model_hasLevel_11 : decode b_Model_hasLevel 11 = .ok (.bipush 6, 2) := by decide +kernel
theorem d_Model_hasLevel_13 : decode b_Model_hasLevel 13 = .ok (.invokevirtual 596, 3) := by decide +kernel
theorem d_Model_hasLevel_16 : decode b_Model_hasLevel 16 = .ok (.pop2, 1) := by decide +kernel
theorem d_Model_hasLevel_17 : decode b_Model_hasLevel 17 = .ok (.iconst 0, 1) := by decide +kernel
theorem d_Model_hasLevel_18 : decode b_Model_hasLevel 18 = .ok (.ireturn, 1) := by decide +kernel
theorem d_Model_hasLevel_19 : decode b_Model_hasLevel 19 = .ok (.iconst 1, 1) := by decide +kernel
theorem d_Model_hasLevel_20 : decode b_Model_hasLevel 20 = .ok (.ireturn, 1) := by decide +kernel
theorem d_Model_begins_0 : decode b_Model_begins 0 = .ok (.aload_n 0, 1) := by decide +kernel
theorem d_Model_begins_1 : decode b_Model_begins 1 = .ok (.getfield 523, 3) := by decide +kernel
theorem d_Model_begins_4 : decode b_Model_begins 4 = .ok (.sipush 20000, 3) := by decide +kernel
theorem d_Model_begins_7 : decode b_Model_begins 7 = .ok (.if_icmp .ne 17, 3) := by decide +kernel
theorem d_Model_begins_10 : decode b_Model_begins 10 = .ok (.aload_n 0, 1) := by decide +kernel
theorem d_Model_begins_11 : decode b_Model_begins 11 = .ok (.bipush 6, 2) := by decide +kernel
theorem d_Model_begins_13 : decode b_Model_begins 13 = .ok (.putfield 559, 3) := by decide +kernel
theorem d_Model_begins_16 : decode b_Model_begins 16 = .ok (.aload_n 0, 1) := by decide +kernel
theorem d_Model_begins_17 : decode b_Model_begins 17 = .ok (.bipush 13, 2) := by decide +kernel
theorem d_Model_begins_19 : decode b_Model_begins 19 = .ok (.putfield 599, 3) := by decide +kernel
theorem d_Model_begins_22 : decode b_Model_begins 22 = .ok (.iconst 0, 1) := by decide +kernel
theorem d_Model_begins_23 : decode b_Model_begins 23 = .ok (.ireturn, 1) := by decide +kernel
theorem d_Model_begins_24 : decode b_Model_begins 24 = .ok (.aload_n 0, 1) := by decide +kernel
theorem d_Model_begins_25 : decode b_Model_begins 25 = .ok (.getfield 523, 3) := by decide +kernel
theorem d_Model_begins_28 : decode b_Model_begins 28 = .ok (.i2l, 1) := by decide +kernel
theorem d_Model_begins_29 : decode b_Model_begins 29 = .ok (.aload_n 0, 1) := by decide +kernel
theorem d_Model_begins_30 : decode b_Model_begins 30 = .ok (.getfield 547, 3) := by decide +kernel
theorem d_Model_begins_33 : decode b_Model_begins 33 = .ok (.lcmp, 1) := by decide +kernel
theorem d_Model_begins_34 : decode b_Model_begins 34 = .ok (.ifCond .lt 10, 3) := by decide +kernel
theorem d_Model_begins_37 : decode b_Model_begins 37 = .ok (.aload_n 0, 1) := by decide +kernel
theorem d_Model_begins_38 : decode b_Model_begins 38 = .ok (.iconst 1, 1) := by decide +kernel
theorem d_Model_begins_39 : decode b_Model_begins 39 = .ok (.putfield 559, 3) := by decide +kernel
theorem d_Model_begins_42 : decode b_Model_begins 42 = .ok (.iconst 0, 1) := by decide +kernel
theorem d_Model_begins_43 : decode b_Model_begins 43 = .ok (.ireturn, 1) := by decide +kernel
theorem d_Model_begins_44 : decode b_Model_begins 44 = .ok (.aload_n 0, 1) := by decide +kernel
theorem d_Model_begins_45 : decode b_Model_begins 45 = .ok (.dup, 1) := by decide +kernel
theorem d_Model_begins_46 : decode b_Model_begins 46 = .ok (.getfield 523, 3) := by decide +kernel
theorem d_Model_begins_49 : decode b_Model_begins 49 = .ok (.iconst 1, 1) := by decide +kernel
theorem d_Model_begins_50 : decode b_Model_begins 50 = .ok (.iadd, 1) := by decide +kernel
theorem d_Model_begins_51 : decode b_Model_begins 51 = .ok (.putfield 523, 3) := by decide +kernel
theorem d_Model_begins_54 : decode b_Model_begins 54 = .ok (.iconst 1, 1) := by decide +kernel
theorem d_Model_begins_55 : decode b_Model_begins 55 = .ok (.ireturn, 1) := by decide +kernel
theorem lk_Model_523 : Cond.fieldLink "TurtleWorldModel" 523 "TurtleWorldModel" "done" "I" ∈ tw_T := tw_i8 171 (by decide +kernel) (by decide +kernel)
theorem lk_Model_547 : Cond.fieldLink "TurtleWorldModel" 547 "TurtleWorldModel" "budget" "J" ∈ tw_T := tw_i8 186 (by decide +kernel) (by decide +kernel)
theorem d_Model_fail_0 : decode b_Model_fail 0 = .ok (.aload_n 0, 1) := by decide +kernel
theorem d_Model_fail_1 : decode b_Model_fail 1 = .ok (.getfield 416, 3) := by decide +kernel
theorem d_Model_fail_4 : decode b_Model_fail 4 = .ok (.ifCond .ne 13, 3) := by decide +kernel
theorem d_Model_fail_7 : decode b_Model_fail 7 = .ok (.aload_n 0, 1) := by decide +kernel
theorem d_Model_fail_8 : decode b_Model_fail 8 = .ok (.iload_n 1, 1) := by decide +kernel
theorem d_Model_fail_9 : decode b_Model_fail 9 = .ok (.putfield 416, 3) := by decide +kernel
theorem d_Model_fail_12 : decode b_Model_fail 12 = .ok (.aload_n 0, 1) := by decide +kernel
theorem d_Model_fail_13 : decode b_Model_fail 13 = .ok (.iload_n 2, 1) := by decide +kernel
theorem d_Model_fail_14 : decode b_Model_fail 14 = .ok (.putfield 264, 3) := by decide +kernel
theorem d_Model_fail_17 : decode b_Model_fail 17 = .ok (.return_, 1) := by decide +kernel
def m_Model_thrown_r (v_i : Nat → Int32) : Int32 := v_i 0
set_option maxHeartbeats 4000000 in
set_option maxRecDepth 100000 in
theorem c_Model_thrown (l : Launch) (dC : Nat → ClassId) (dI : Nat → Nat → Nat) (sz : Nat) (h0 : Nat) (v_r : Nat → Nat) (v_i : Nat → Int32) (v_j : Nat → Int64) (cI : ClassId) (cJ : ClassId) (cB : ClassId)  : Met l y_Model_thrown w_Model_thrown ({ frames := 0, cells := 0, slots := 0, locals := 0 }) (va_Pc [.ref h0] (fun U => U.heap.size = sz ∧ va_P (dC, dI) classes [(h0, .inr (12, mo v_r v_i v_j))] U.heap ∧ va_K (dC, dI) classes [(cI, .int), (cJ, .long), (cB, .byte)] U ∧ va_D (fun _ => True) [(h0, .inr (12, mo v_r v_i v_j))])) (va_Qi (fun (r : Int32) (_ : Unit) => r = m_Model_thrown_r v_i) (fun (_ : Unit) t => va_P (dC, dI) classes [(h0, .inr (12, mo v_r v_i v_j))] t.heap ∧ va_K (dC, dI) classes [(cI, .int), (cJ, .long), (cB, .byte)] t ∧ va_D (va_A [(h0, .inr (12, mo v_r v_i v_j))] sz) [(h0, .inr (12, mo v_r v_i v_j))]) (va_A [(h0, .inr (12, mo v_r v_i v_j))] sz)) 0 0 (va_A [(h0, .inr (12, mo v_r v_i v_j))] sz) := by
  refine Met.ofW (cc := b_Model_thrown) (maxL := 1) (ret := (some .int)) (by decide) rfl ?_
  intro p e s m args below meth c s₁ B hml hv
  obtain ⟨rfl, hsz, hP, hK, hD0⟩ := hv
  have hx := B.exec
  have hb := B.bytes
  have hr := B.returns
  have hts := atoms_spec (ws := w_Model_thrown) B.pre
  have htt : ∀ w ∈ tw_T, w.before _ s = true := fun w h => hts w (List.mem_cons_of_mem _ h)
  have hown : s.vm.findClass R_Model = some m.cls := findClass_of_methodNamed B.named
  have hlocks := B.notSynchronized
  subst hsz
  have hD := hD0.self (sz := s.heap.size)
  generalize hAe : va_A [(h0, .inr (12, mo v_r v_i v_j))] s.heap.size = A at hD ⊢
  have hA : ∀ q : Nat, s.heap.size ≤ q → A q := fun q h => by rw [← hAe]; exact Or.inr h
  have hS : va_S A s.heap s.heap [] := va_S.rf
  have hP : va_P (dC, dI) classes [(h0, .inr (12, mo v_r v_i v_j))] s.heap := hP
  have hl := lv_entry ([.ref h0]) (n := 1) (Nat.le_of_ble_eq_true rfl)
  rw [lg_entry_eq]
  generalize (lg_sl ([.ref h0]) ++ List.replicate (1 - (lg_sl ([.ref h0])).length) Slot.unset).toArray = ls at hl ⊢
  have hl : lv_has ls 1 [(0, .ref h0)] := hl
  refine lv_aload_n hx hb d_Model_thrown_0 rfl (lv_at hl 0 rfl) ?_
  refine va_get (D := (dC, dI)) (ci := 12) (v := .int (v_i 0)) (C := R_Model) (T := F_Model) (N := 127) hx hb htt iw_Model hown hK hP 0 rfl rfl 0 (by decide) (htt _ lk_Model_1) (fun _ h9 => h9) rfl d_Model_thrown_1 ?_
  have hP9 := hP.sub (ws' := [(h0, .inr (12, mo v_r v_i v_j))]) [0] rfl
  have hD9 := hD.sub (ws' := [(h0, .inr (12, mo v_r v_i v_j))]) [0] (by decide) rfl
  exact W.iret (v := v_i 0) hx hb hr (fun t9 ht hW => ⟨⟨v_i 0, (), rfl, by unfold m_Model_thrown_r; rfl, by rw [ht]; exact hP9, va_K.moved hW.alike hK, hD9⟩, hS.F ht⟩) hS.2.2 d_Model_thrown_4

def m_Model_fault_r (v_i : Nat → Int32) (a : Int32) : Int32 := if ((v_i 75)) = ((0 : Int32)) then (-1) else if a = ((0 : Int32)) then v_i 76 else if a = ((1 : Int32)) then v_i 75 else (-1)
def m_Model_fault_w0_i (v_i : Nat → Int32) (a : Int32) : Nat → Int32 := if ((v_i 75)) = ((0 : Int32)) then upd v_i 0 0 else if a = ((0 : Int32)) then upd v_i 0 0 else if a = ((1 : Int32)) then upd v_i 0 0 else upd v_i 0 0
set_option maxHeartbeats 4000000 in
set_option maxRecDepth 100000 in
theorem c_Model_fault (l : Launch) (dC : Nat → ClassId) (dI : Nat → Nat → Nat) (sz : Nat) (h0 : Nat) (v_r : Nat → Nat) (v_i : Nat → Int32) (v_j : Nat → Int64) (cI : ClassId) (cJ : ClassId) (cB : ClassId) (a : Int32)  : Met l y_Model_fault w_Model_fault ({ frames := 0, cells := 0, slots := 0, locals := 0 }) (va_Pc [.ref h0, .int a] (fun U => U.heap.size = sz ∧ va_P (dC, dI) classes [(h0, .inr (12, mo v_r v_i v_j))] U.heap ∧ va_K (dC, dI) classes [(cI, .int), (cJ, .long), (cB, .byte)] U ∧ va_D (fun _ => True) [(h0, .inr (12, mo v_r v_i v_j))])) (va_Qi (fun (r : Int32) (_ : Unit) => r = m_Model_fault_r v_i a) (fun (_ : Unit) t => va_P (dC, dI) classes [(h0, .inr (12, mo v_r (m_Model_fault_w0_i v_i a) v_j))] t.heap ∧ va_K (dC, dI) classes [(cI, .int), (cJ, .long), (cB, .byte)] t ∧ va_D (va_A [(h0, .inr (12, mo v_r v_i v_j))] sz) [(h0, .inr (12, mo v_r (m_Model_fault_w0_i v_i a) v_j))]) (va_A [(h0, .inr (12, mo v_r v_i v_j))] sz)) 0 0 (va_A [(h0, .inr (12, mo v_r v_i v_j))] sz) := by
  refine Met.ofW (cc := b_Model_fault) (maxL := 2) (ret := (some .int)) (by decide) rfl ?_
  intro p e s m args below meth c s₁ B hml hv
  obtain ⟨rfl, hsz, hP, hK, hD0⟩ := hv
  have hx := B.exec
  have hb := B.bytes
  have hr := B.returns
  have hts := atoms_spec (ws := w_Model_fault) B.pre
  have htt : ∀ w ∈ tw_T, w.before _ s = true := fun w h => hts w (List.mem_cons_of_mem _ h)
  have hown : s.vm.findClass R_Model = some m.cls := findClass_of_methodNamed B.named
  have hlocks := B.notSynchronized
  subst hsz
  have hD := hD0.self (sz := s.heap.size)
  generalize hAe : va_A [(h0, .inr (12, mo v_r v_i v_j))] s.heap.size = A at hD ⊢
  have hA : ∀ q : Nat, s.heap.size ≤ q → A q := fun q h => by rw [← hAe]; exact Or.inr h
  have hS : va_S A s.heap s.heap [] := va_S.rf
  have hP : va_P (dC, dI) classes [(h0, .inr (12, mo v_r v_i v_j))] s.heap := hP
  have hl := lv_entry ([.ref h0, .int a]) (n := 2) (Nat.le_of_ble_eq_true rfl)
  rw [lg_entry_eq]
  generalize (lg_sl ([.ref h0, .int a]) ++ List.replicate (2 - (lg_sl ([.ref h0, .int a])).length) Slot.unset).toArray = ls at hl ⊢
  have hl : lv_has ls 2 [(0, .ref h0), (1, .int a)] := hl
  refine lv_aload_n hx hb d_Model_fault_0 rfl (lv_at hl 0 rfl) ?_
  refine lv_iconst (v := 0) hx hb d_Model_fault_1 (by decide) ?_
  refine va_put (D := (dC, dI)) (ci := 12) (v := .int 0) (ty := .int) (C := R_Model) (T := F_Model) (N := 127) hx hb htt iw_Model t_Model t_Model_ok n_Model hown hK hP hD hS 0 rfl rfl 0 (by decide) (htt _ lk_Model_1) (fun _ h9 => h9) rfl (by decide +kernel) rfl rfl (Nat.le_of_ble_eq_true rfl) d_Model_fault_2 (fun H locs hP hD hS => ?_)
  have hP : va_P (dC, dI) classes [(h0, .inr (12, mo v_r (upd v_i 0 0) v_j))] H := hP
  have hD : va_D A [(h0, .inr (12, mo v_r (upd v_i 0 0) v_j))] := hD
  refine lv_aload_n hx hb d_Model_fault_5 rfl (lv_at hl 0 rfl) ?_
  refine va_get (D := (dC, dI)) (ci := 12) (v := .int (v_i 75)) (C := R_Model) (T := F_Model) (N := 127) hx hb htt iw_Model hown hK hP 0 rfl rfl 75 (by decide) (htt _ lk_Model_416) (fun _ h9 => h9) rfl d_Model_fault_6 ?_
  refine lv_if_ne (tgt := 16) hx hb d_Model_fault_9 (by decide) (fun c_1 => ?_) (fun c_1 => ?_)
  · refine lv_iload_n hx hb d_Model_fault_16 rfl (lv_at hl 1 rfl) ?_
    refine lv_if_ne (tgt := 27) hx hb d_Model_fault_17 (by decide) (fun c_2 => ?_) (fun c_2 => ?_)
    · refine lv_iload_n hx hb d_Model_fault_27 rfl (lv_at hl 1 rfl) ?_
      refine lv_iconst (v := 1) hx hb d_Model_fault_28 (by decide) ?_
      refine lv_icmp_ne (tgt := 39) hx hb d_Model_fault_29 (by decide) (fun c_3 => ?_) (fun c_3 => ?_)
      · refine lv_iconst (v := -1) hx hb d_Model_fault_39 (by decide) ?_
        have hP9 := hP.sub (ws' := [(h0, .inr (12, mo v_r (upd v_i 0 0) v_j))]) [0] rfl
        have hD9 := hD.sub (ws' := [(h0, .inr (12, mo v_r (upd v_i 0 0) v_j))]) [0] (by decide) rfl
        have eW : [(h0, .inr (12, mo v_r (upd v_i 0 0) v_j))] = ([(h0, .inr (12, mo v_r (m_Model_fault_w0_i v_i a) v_j))] : va_W) := by unfold m_Model_fault_w0_i; simp only [if_neg c_1, if_neg c_2, if_neg c_3]
        rw [eW] at hP9 hD9
        exact W.iret (v := (-1)) hx hb hr (fun t9 ht hW => ⟨⟨(-1), (), rfl, by unfold m_Model_fault_r; simp only [if_neg c_1, if_neg c_2, if_neg c_3], by rw [ht]; exact hP9, va_K.moved hW.alike hK, hD9⟩, hS.F ht⟩) hS.2.2 d_Model_fault_40
      · refine lv_aload_n hx hb d_Model_fault_32 rfl (lv_at hl 0 rfl) ?_
        refine va_get (D := (dC, dI)) (ci := 12) (v := .int (v_i 75)) (C := R_Model) (T := F_Model) (N := 127) hx hb htt iw_Model hown hK hP 0 rfl rfl 75 (by decide) (htt _ lk_Model_416) (fun _ h9 => h9) rfl d_Model_fault_33 ?_
        refine lv_goto (tgt := 40) hx hb d_Model_fault_36 (by decide) ?_
        have hP9 := hP.sub (ws' := [(h0, .inr (12, mo v_r (upd v_i 0 0) v_j))]) [0] rfl
        have hD9 := hD.sub (ws' := [(h0, .inr (12, mo v_r (upd v_i 0 0) v_j))]) [0] (by decide) rfl
        have eW : [(h0, .inr (12, mo v_r (upd v_i 0 0) v_j))] = ([(h0, .inr (12, mo v_r (m_Model_fault_w0_i v_i a) v_j))] : va_W) := by unfold m_Model_fault_w0_i; simp only [if_neg c_1, if_neg c_2, if_pos c_3]
        rw [eW] at hP9 hD9
        exact W.iret (v := v_i 75) hx hb hr (fun t9 ht hW => ⟨⟨v_i 75, (), rfl, by unfold m_Model_fault_r; simp only [if_neg c_1, if_neg c_2, if_pos c_3], by rw [ht]; exact hP9, va_K.moved hW.alike hK, hD9⟩, hS.F ht⟩) hS.2.2 d_Model_fault_40
    · refine lv_aload_n hx hb d_Model_fault_20 rfl (lv_at hl 0 rfl) ?_
      refine va_get (D := (dC, dI)) (ci := 12) (v := .int (v_i 76)) (C := R_Model) (T := F_Model) (N := 127) hx hb htt iw_Model hown hK hP 0 rfl rfl 76 (by decide) (htt _ lk_Model_264) (fun _ h9 => h9) rfl d_Model_fault_21 ?_
      refine lv_goto (tgt := 40) hx hb d_Model_fault_24 (by decide) ?_
      have hP9 := hP.sub (ws' := [(h0, .inr (12, mo v_r (upd v_i 0 0) v_j))]) [0] rfl
      have hD9 := hD.sub (ws' := [(h0, .inr (12, mo v_r (upd v_i 0 0) v_j))]) [0] (by decide) rfl
      have eW : [(h0, .inr (12, mo v_r (upd v_i 0 0) v_j))] = ([(h0, .inr (12, mo v_r (m_Model_fault_w0_i v_i a) v_j))] : va_W) := by unfold m_Model_fault_w0_i; simp only [if_neg c_1, if_pos c_2]
      rw [eW] at hP9 hD9
      exact W.iret (v := v_i 76) hx hb hr (fun t9 ht hW => ⟨⟨v_i 76, (), rfl, by unfold m_Model_fault_r; simp only [if_neg c_1, if_pos c_2], by rw [ht]; exact hP9, va_K.moved hW.alike hK, hD9⟩, hS.F ht⟩) hS.2.2 d_Model_fault_40
  · refine lv_iconst (v := -1) hx hb d_Model_fault_12 (by decide) ?_
    refine lv_goto (tgt := 40) hx hb d_Model_fault_13 (by decide) ?_
    have hP9 := hP.sub (ws' := [(h0, .inr (12, mo v_r (upd v_i 0 0) v_j))]) [0] rfl
    have hD9 := hD.sub (ws' := [(h0, .inr (12, mo v_r (upd v_i 0 0) v_j))]) [0] (by decide) rfl
    have eW : [(h0, .inr (12, mo v_r (upd v_i 0 0) v_j))] = ([(h0, .inr (12, mo v_r (m_Model_fault_w0_i v_i a) v_j))] : va_W) := by unfold m_Model_fault_w0_i; simp only [if_pos c_1]
    rw [eW] at hP9 hD9
    exact W.iret (v := (-1)) hx hb hr (fun t9 ht hW => ⟨⟨(-1), (), rfl, by unfold m_Model_fault_r; simp only [if_pos c_1], by rw [ht]; exact hP9, va_K.moved hW.alike hK, hD9⟩, hS.F ht⟩) hS.2.2 d_Model_fault_40

theorem md_in {i j : Int32} (h0 : ¬ i < -32) (h1 : ¬ 31 < i) (h2 : ¬ j < -32) (h3 : j ≤ 31) : vp_in ((64 * (j + 32)) + i + 32) 4096 := by
  have n1 : (-32 : Int32).toInt = -32 := by decide
  simp only [Int32.lt_iff_toInt_lt, Int32.le_iff_toInt_le, n1, Int32.reduceToInt] at h0 h1 h2 h3
  have e1 : (j + 32).toInt = j.toInt + 32 := by rw [i32_add (by simp only [Int32.reduceToInt]; omega) (by simp only [Int32.reduceToInt]; omega)]; simp only [Int32.reduceToInt]
  have e2 : (64 * (j + 32)).toInt = 64 * (j.toInt + 32) := by rw [i32_mul (by rw [e1]; simp only [Int32.reduceToInt]; omega) (by rw [e1]; simp only [Int32.reduceToInt]; omega), e1]; simp only [Int32.reduceToInt]
  have e3 : (64 * (j + 32) + i).toInt = 64 * (j.toInt + 32) + i.toInt := by rw [i32_add (by rw [e2]; omega) (by rw [e2]; omega), e2]
  have e4 : (64 * (j + 32) + i + 32).toInt = 64 * (j.toInt + 32) + i.toInt + 32 := by rw [i32_add (by rw [e3]; simp only [Int32.reduceToInt]; omega) (by rw [e3]; simp only [Int32.reduceToInt]; omega), e3]; simp only [Int32.reduceToInt]
  rw [vp_in_iff, e4]; omega

def m_Model_dotAt_r (v_dots_v : Nat → Int32) (a : Int32) (b : Int32) : Int32 := if a < ((-32 : Int32)) then (-1) else if ((31 : Int32)) < a then (-1) else if b < ((-32 : Int32)) then (-1) else if b ≤ ((31 : Int32)) then v_dots_v (((64 * (b + 32)) + a) + 32).toNatClampNeg else (-1)
set_option maxHeartbeats 4000000 in
set_option maxRecDepth 100000 in
theorem c_Model_dotAt (l : Launch) (dC : Nat → ClassId) (dI : Nat → Nat → Nat) (sz : Nat) (h0 : Nat) (v_r : Nat → Nat) (v_i : Nat → Int32) (v_j : Nat → Int64) (v_dots_v : Nat → Int32) (cI : ClassId) (cJ : ClassId) (cB : ClassId) (a : Int32) (b : Int32)  : Met l y_Model_dotAt w_Model_dotAt ({ frames := 0, cells := 0, slots := 0, locals := 0 }) (va_Pc [.ref h0, .int a, .int b] (fun U => U.heap.size = sz ∧ va_P (dC, dI) classes [(h0, .inr (12, mo v_r v_i v_j)), (v_r 44, .inl (cI, 4096, .inl v_dots_v))] U.heap ∧ va_K (dC, dI) classes [(cI, .int), (cJ, .long), (cB, .byte)] U ∧ va_D (fun _ => True) [(h0, .inr (12, mo v_r v_i v_j)), (v_r 44, .inl (cI, 4096, .inl v_dots_v))])) (va_Qi (fun (r : Int32) (_ : Unit) => r = m_Model_dotAt_r v_dots_v a b) (fun (_ : Unit) t => va_P (dC, dI) classes [(h0, .inr (12, mo v_r v_i v_j)), (v_r 44, .inl (cI, 4096, .inl v_dots_v))] t.heap ∧ va_K (dC, dI) classes [(cI, .int), (cJ, .long), (cB, .byte)] t ∧ va_D (va_A [(h0, .inr (12, mo v_r v_i v_j)), (v_r 44, .inl (cI, 4096, .inl v_dots_v))] sz) [(h0, .inr (12, mo v_r v_i v_j)), (v_r 44, .inl (cI, 4096, .inl v_dots_v))]) (va_A [(h0, .inr (12, mo v_r v_i v_j)), (v_r 44, .inl (cI, 4096, .inl v_dots_v))] sz)) 0 0 (va_A [(h0, .inr (12, mo v_r v_i v_j)), (v_r 44, .inl (cI, 4096, .inl v_dots_v))] sz) := by
  refine Met.ofW (cc := b_Model_dotAt) (maxL := 3) (ret := (some .int)) (by decide) rfl ?_
  intro p e s m args below meth c s₁ B hml hv
  obtain ⟨rfl, hsz, hP, hK, hD0⟩ := hv
  have hx := B.exec
  have hb := B.bytes
  have hr := B.returns
  have hts := atoms_spec (ws := w_Model_dotAt) B.pre
  have htt : ∀ w ∈ tw_T, w.before _ s = true := fun w h => hts w (List.mem_cons_of_mem _ h)
  have hown : s.vm.findClass R_Model = some m.cls := findClass_of_methodNamed B.named
  have hlocks := B.notSynchronized
  subst hsz
  have hD := hD0.self (sz := s.heap.size)
  generalize hAe : va_A [(h0, .inr (12, mo v_r v_i v_j)), (v_r 44, .inl (cI, 4096, .inl v_dots_v))] s.heap.size = A at hD ⊢
  have hA : ∀ q : Nat, s.heap.size ≤ q → A q := fun q h => by rw [← hAe]; exact Or.inr h
  have hS : va_S A s.heap s.heap [] := va_S.rf
  have hP : va_P (dC, dI) classes [(h0, .inr (12, mo v_r v_i v_j)), (v_r 44, .inl (cI, 4096, .inl v_dots_v))] s.heap := hP
  have hl := lv_entry ([.ref h0, .int a, .int b]) (n := 3) (Nat.le_of_ble_eq_true rfl)
  rw [lg_entry_eq]
  generalize (lg_sl ([.ref h0, .int a, .int b]) ++ List.replicate (3 - (lg_sl ([.ref h0, .int a, .int b])).length) Slot.unset).toArray = ls at hl ⊢
  have hl : lv_has ls 3 [(0, .ref h0), (1, .int a), (2, .int b)] := hl
  refine lv_iload_n hx hb d_Model_dotAt_0 rfl (lv_at hl 1 rfl) ?_
  refine lv_bipush (v := -32) hx hb d_Model_dotAt_1 (by decide) ?_
  refine lv_icmp_lt (tgt := 24) hx hb d_Model_dotAt_3 (by decide) (fun c_1 => ?_) (fun c_1 => ?_)
  · refine lv_iconst (v := -1) hx hb d_Model_dotAt_24 (by decide) ?_
    refine lv_goto (tgt := 45) hx hb d_Model_dotAt_25 (by decide) ?_
    have hP9 := hP.sub (ws' := [(h0, .inr (12, mo v_r v_i v_j)), (v_r 44, .inl (cI, 4096, .inl v_dots_v))]) [0, 1] rfl
    have hD9 := hD.sub (ws' := [(h0, .inr (12, mo v_r v_i v_j)), (v_r 44, .inl (cI, 4096, .inl v_dots_v))]) [0, 1] (by decide) rfl
    exact W.iret (v := (-1)) hx hb hr (fun t9 ht hW => ⟨⟨(-1), (), rfl, by unfold m_Model_dotAt_r; simp only [if_pos c_1], by rw [ht]; exact hP9, va_K.moved hW.alike hK, hD9⟩, hS.F ht⟩) hS.2.2 d_Model_dotAt_45
  · refine lv_iload_n hx hb d_Model_dotAt_6 rfl (lv_at hl 1 rfl) ?_
    refine lv_bipush (v := 31) hx hb d_Model_dotAt_7 (by decide) ?_
    refine lv_icmp_gt (tgt := 24) hx hb d_Model_dotAt_9 (by decide) (fun c_2 => ?_) (fun c_2 => ?_)
    · refine lv_iconst (v := -1) hx hb d_Model_dotAt_24 (by decide) ?_
      refine lv_goto (tgt := 45) hx hb d_Model_dotAt_25 (by decide) ?_
      have hP9 := hP.sub (ws' := [(h0, .inr (12, mo v_r v_i v_j)), (v_r 44, .inl (cI, 4096, .inl v_dots_v))]) [0, 1] rfl
      have hD9 := hD.sub (ws' := [(h0, .inr (12, mo v_r v_i v_j)), (v_r 44, .inl (cI, 4096, .inl v_dots_v))]) [0, 1] (by decide) rfl
      exact W.iret (v := (-1)) hx hb hr (fun t9 ht hW => ⟨⟨(-1), (), rfl, by unfold m_Model_dotAt_r; simp only [if_neg c_1, if_pos c_2], by rw [ht]; exact hP9, va_K.moved hW.alike hK, hD9⟩, hS.F ht⟩) hS.2.2 d_Model_dotAt_45
    · refine lv_iload_n hx hb d_Model_dotAt_12 rfl (lv_at hl 2 rfl) ?_
      refine lv_bipush (v := -32) hx hb d_Model_dotAt_13 (by decide) ?_
      refine lv_icmp_lt (tgt := 24) hx hb d_Model_dotAt_15 (by decide) (fun c_3 => ?_) (fun c_3 => ?_)
      · refine lv_iconst (v := -1) hx hb d_Model_dotAt_24 (by decide) ?_
        refine lv_goto (tgt := 45) hx hb d_Model_dotAt_25 (by decide) ?_
        have hP9 := hP.sub (ws' := [(h0, .inr (12, mo v_r v_i v_j)), (v_r 44, .inl (cI, 4096, .inl v_dots_v))]) [0, 1] rfl
        have hD9 := hD.sub (ws' := [(h0, .inr (12, mo v_r v_i v_j)), (v_r 44, .inl (cI, 4096, .inl v_dots_v))]) [0, 1] (by decide) rfl
        exact W.iret (v := (-1)) hx hb hr (fun t9 ht hW => ⟨⟨(-1), (), rfl, by unfold m_Model_dotAt_r; simp only [if_neg c_1, if_neg c_2, if_pos c_3], by rw [ht]; exact hP9, va_K.moved hW.alike hK, hD9⟩, hS.F ht⟩) hS.2.2 d_Model_dotAt_45
      · refine lv_iload_n hx hb d_Model_dotAt_18 rfl (lv_at hl 2 rfl) ?_
        refine lv_bipush (v := 31) hx hb d_Model_dotAt_19 (by decide) ?_
        refine lv_icmp_le (tgt := 28) hx hb d_Model_dotAt_21 (by decide) (fun c_4 => ?_) (fun c_4 => ?_)
        · refine lv_aload_n hx hb d_Model_dotAt_28 rfl (lv_at hl 0 rfl) ?_
          refine va_get (D := (dC, dI)) (ci := 12) (v := .ref (v_r 44)) (C := R_Model) (T := F_Model) (N := 127) hx hb htt iw_Model hown hK hP 0 rfl rfl 44 (by decide) (htt _ lk_Model_222) (fun _ h9 => h9) rfl d_Model_dotAt_29 ?_
          refine lv_bipush (v := 64) hx hb d_Model_dotAt_32 (by decide) ?_
          refine lv_iload_n hx hb d_Model_dotAt_34 rfl (lv_at hl 2 rfl) ?_
          refine lv_bipush (v := 32) hx hb d_Model_dotAt_35 (by decide) ?_
          refine lv_iadd hx hb d_Model_dotAt_37 ?_
          refine lv_imul hx hb d_Model_dotAt_38 ?_
          refine lv_iload_n hx hb d_Model_dotAt_39 rfl (lv_at hl 1 rfl) ?_
          refine lv_iadd hx hb d_Model_dotAt_40 ?_
          refine lv_bipush (v := 32) hx hb d_Model_dotAt_41 (by decide) ?_
          refine lv_iadd hx hb d_Model_dotAt_43 ?_
          have h_5 : vp_in (((64 * (b + 32)) + a) + 32) 4096 := md_in c_1 c_2 c_3 c_4
          refine va_iald hx hb hK hP 1 0 rfl rfl h_5 d_Model_dotAt_44 ?_
          have hP9 := hP.sub (ws' := [(h0, .inr (12, mo v_r v_i v_j)), (v_r 44, .inl (cI, 4096, .inl v_dots_v))]) [0, 1] rfl
          have hD9 := hD.sub (ws' := [(h0, .inr (12, mo v_r v_i v_j)), (v_r 44, .inl (cI, 4096, .inl v_dots_v))]) [0, 1] (by decide) rfl
          exact W.iret (v := v_dots_v (((64 * (b + 32)) + a) + 32).toNatClampNeg) hx hb hr (fun t9 ht hW => ⟨⟨v_dots_v (((64 * (b + 32)) + a) + 32).toNatClampNeg, (), rfl, by unfold m_Model_dotAt_r; simp only [if_neg c_1, if_neg c_2, if_neg c_3, if_pos c_4], by rw [ht]; exact hP9, va_K.moved hW.alike hK, hD9⟩, hS.F ht⟩) hS.2.2 d_Model_dotAt_45
        · refine lv_iconst (v := -1) hx hb d_Model_dotAt_24 (by decide) ?_
          refine lv_goto (tgt := 45) hx hb d_Model_dotAt_25 (by decide) ?_
          have hP9 := hP.sub (ws' := [(h0, .inr (12, mo v_r v_i v_j)), (v_r 44, .inl (cI, 4096, .inl v_dots_v))]) [0, 1] rfl
          have hD9 := hD.sub (ws' := [(h0, .inr (12, mo v_r v_i v_j)), (v_r 44, .inl (cI, 4096, .inl v_dots_v))]) [0, 1] (by decide) rfl
          exact W.iret (v := (-1)) hx hb hr (fun t9 ht hW => ⟨⟨(-1), (), rfl, by unfold m_Model_dotAt_r; simp only [if_neg c_1, if_neg c_2, if_neg c_3, if_neg c_4], by rw [ht]; exact hP9, va_K.moved hW.alike hK, hD9⟩, hS.F ht⟩) hS.2.2 d_Model_dotAt_45

def m_Model_dot_r (v_dots_v : Nat → Int32) (a : Int32) (b : Int32) : Int32 := m_Model_dotAt_r v_dots_v a b
def m_Model_dot_w0_i (v_i : Nat → Int32) : Nat → Int32 := (upd v_i 0 0)
set_option maxHeartbeats 4000000 in
set_option maxRecDepth 100000 in
theorem c_Model_dot (l : Launch) (dC : Nat → ClassId) (dI : Nat → Nat → Nat) (sz : Nat) (h0 : Nat) (v_r : Nat → Nat) (v_i : Nat → Int32) (v_j : Nat → Int64) (v_dots_v : Nat → Int32) (cI : ClassId) (cJ : ClassId) (cB : ClassId) (a : Int32) (b : Int32)  : Met l y_Model_dot w_Model_dot ({ frames := 1, cells := 0, slots := 0, locals := 22 }) (va_Pc [.ref h0, .int a, .int b] (fun U => U.heap.size = sz ∧ va_P (dC, dI) classes [(h0, .inr (12, mo v_r v_i v_j)), (v_r 44, .inl (cI, 4096, .inl v_dots_v))] U.heap ∧ va_K (dC, dI) classes [(cI, .int), (cJ, .long), (cB, .byte)] U ∧ va_D (fun _ => True) [(h0, .inr (12, mo v_r v_i v_j)), (v_r 44, .inl (cI, 4096, .inl v_dots_v))])) (va_Qi (fun (r : Int32) (_ : Unit) => r = m_Model_dot_r v_dots_v a b) (fun (_ : Unit) t => va_P (dC, dI) classes [(h0, .inr (12, mo v_r (m_Model_dot_w0_i v_i) v_j)), (v_r 44, .inl (cI, 4096, .inl v_dots_v))] t.heap ∧ va_K (dC, dI) classes [(cI, .int), (cJ, .long), (cB, .byte)] t ∧ va_D (va_A [(h0, .inr (12, mo v_r v_i v_j)), (v_r 44, .inl (cI, 4096, .inl v_dots_v))] sz) [(h0, .inr (12, mo v_r (m_Model_dot_w0_i v_i) v_j)), (v_r 44, .inl (cI, 4096, .inl v_dots_v))]) (va_A [(h0, .inr (12, mo v_r v_i v_j)), (v_r 44, .inl (cI, 4096, .inl v_dots_v))] sz)) 0 0 (va_A [(h0, .inr (12, mo v_r v_i v_j)), (v_r 44, .inl (cI, 4096, .inl v_dots_v))] sz) := by
  refine Met.ofW (cc := b_Model_dot) (maxL := 3) (ret := (some .int)) (by decide) rfl ?_
  intro p e s m args below meth c s₁ B hml hv
  obtain ⟨rfl, hsz, hP, hK, hD0⟩ := hv
  have hx := B.exec
  have hb := B.bytes
  have hr := B.returns
  have hts := atoms_spec (ws := w_Model_dot) B.pre
  have htt : ∀ w ∈ tw_T, w.before _ s = true := fun w h => hts w (List.mem_cons_of_mem _ h)
  have hown : s.vm.findClass R_Model = some m.cls := findClass_of_methodNamed B.named
  have hlocks := B.notSynchronized
  subst hsz
  have hD := hD0.self (sz := s.heap.size)
  generalize hAe : va_A [(h0, .inr (12, mo v_r v_i v_j)), (v_r 44, .inl (cI, 4096, .inl v_dots_v))] s.heap.size = A at hD ⊢
  have hA : ∀ q : Nat, s.heap.size ≤ q → A q := fun q h => by rw [← hAe]; exact Or.inr h
  have hS : va_S A s.heap s.heap [] := va_S.rf
  have hP : va_P (dC, dI) classes [(h0, .inr (12, mo v_r v_i v_j)), (v_r 44, .inl (cI, 4096, .inl v_dots_v))] s.heap := hP
  have hl := lv_entry ([.ref h0, .int a, .int b]) (n := 3) (Nat.le_of_ble_eq_true rfl)
  rw [lg_entry_eq]
  generalize (lg_sl ([.ref h0, .int a, .int b]) ++ List.replicate (3 - (lg_sl ([.ref h0, .int a, .int b])).length) Slot.unset).toArray = ls at hl ⊢
  have hl : lv_has ls 3 [(0, .ref h0), (1, .int a), (2, .int b)] := hl
  refine lv_aload_n hx hb d_Model_dot_0 rfl (lv_at hl 0 rfl) ?_
  refine lv_iconst (v := 0) hx hb d_Model_dot_1 (by decide) ?_
  refine va_put (D := (dC, dI)) (ci := 12) (v := .int 0) (ty := .int) (C := R_Model) (T := F_Model) (N := 127) hx hb htt iw_Model t_Model t_Model_ok n_Model hown hK hP hD hS 0 rfl rfl 0 (by decide) (htt _ lk_Model_1) (fun _ h9 => h9) rfl (by decide +kernel) rfl rfl (Nat.le_of_ble_eq_true rfl) d_Model_dot_2 (fun H locs hP hD hS => ?_)
  have hP : va_P (dC, dI) classes [(h0, .inr (12, mo v_r (upd v_i 0 0) v_j)), (v_r 44, .inl (cI, 4096, .inl v_dots_v))] H := hP
  have hD : va_D A [(h0, .inr (12, mo v_r (upd v_i 0 0) v_j)), (v_r 44, .inl (cI, 4096, .inl v_dots_v))] := hD
  refine lv_aload_n hx hb d_Model_dot_5 rfl (lv_at hl 0 rfl) ?_
  refine lv_iload_n hx hb d_Model_dot_6 rfl (lv_at hl 1 rfl) ?_
  refine lv_iload_n hx hb d_Model_dot_7 rfl (lv_at hl 2 rfl) ?_
  have hPc := hP.sub (ws' := [(h0, .inr (12, mo v_r ((upd v_i 0 0)) v_j)), (v_r 44, .inl (cI, 4096, .inl v_dots_v))]) [0, 1] rfl
  have hDc := hD.sub (ws' := [(h0, .inr (12, mo v_r ((upd v_i 0 0)) v_j)), (v_r 44, .inl (cI, 4096, .inl v_dots_v))]) [0, 1] (by decide) rfl
  have hKc := hK.sub (tys' := [(cI, .int), (cJ, .long), (cB, .byte)]) [0, 1, 2] rfl
  have hFc := va_free (wc := [(h0, .inr (12, mo v_r ((upd v_i 0 0)) v_j)), (v_r 44, .inl (cI, 4096, .inl v_dots_v))]) hD hS hA [0, 1] rfl
  refine va_calli (va_runV (As := [.int a, .int b]) (rest := []) ⟨hx, hb, hml, hown, hts⟩ (c_Model_dotAt l dC dI H.size h0 v_r (upd v_i 0 0) v_j v_dots_v cI cJ cB a b) (cwV 2 hts (tw_GV tw_cons cw_Model_dotAt lk_Model_827 in_Model_dotAt sel_Model_dotAt ini_Model) rfl rfl rfl (by decide +kernel) ⟨Nat.le_of_ble_eq_true rfl, Nat.le_of_ble_eq_true rfl⟩) ⟨fun a U g mk q => by obtain ⟨q0, q1, qP, qK, qD⟩ := q; exact ⟨q0, q1, qP, va_K.moved (u := U) (U := U.calling g mk a) (Vm.Alike.refl U.vm) qK, qD⟩, va_recv hKc hPc (ci := 12) (q0 := 0) rfl rfl, fun U hU hW => ⟨rfl, by rw [hU], by rw [hU]; exact hPc, va_K.moved hW.alike hKc, hDc.weaken (fun _ _ _ _ => trivial)⟩⟩ rfl rfl hl.1 rfl (lv_room (Nat.le_of_ble_eq_true rfl)) d_Model_dot_8 ⟨Nat.le_of_ble_eq_true rfl, Nat.le_of_ble_eq_true rfl⟩) hS (fun q _ h => hFc q h) hFc (fun r9 u9 t9 H1 locs ht hvm e9 hB hz1 hk1 hS => ?_)
  obtain ⟨hP1, hK1, hD1⟩ := hB
  rw [ht] at hP1
  obtain ⟨hP, hD⟩ := va_join (wr := []) (w1 := [(h0, .inr (12, mo v_r ((upd v_i 0 0)) v_j)), (v_r 44, .inl (cI, 4096, .inl v_dots_v))]) hP hD [0, 1] [] rfl rfl (by decide) (by decide) hk1 hFc hP1 hD1
  subst e9
  clear hP1 hD1 hK1 hvm hz1 hk1 hFc hKc hDc hPc
  subst ht
  generalize t9.heap = H at hP hS ⊢
  have hP : va_P (dC, dI) classes [(h0, .inr (12, mo v_r ((upd v_i 0 0)) v_j)), (v_r 44, .inl (cI, 4096, .inl v_dots_v))] H := hP
  have hD : va_D A [(h0, .inr (12, mo v_r ((upd v_i 0 0)) v_j)), (v_r 44, .inl (cI, 4096, .inl v_dots_v))] := hD
  have hP9 := hP.sub (ws' := [(h0, .inr (12, mo v_r ((upd v_i 0 0)) v_j)), (v_r 44, .inl (cI, 4096, .inl v_dots_v))]) [0, 1] rfl
  have hD9 := hD.sub (ws' := [(h0, .inr (12, mo v_r ((upd v_i 0 0)) v_j)), (v_r 44, .inl (cI, 4096, .inl v_dots_v))]) [0, 1] (by decide) rfl
  have eW : [(h0, .inr (12, mo v_r ((upd v_i 0 0)) v_j)), (v_r 44, .inl (cI, 4096, .inl v_dots_v))] = ([(h0, .inr (12, mo v_r (m_Model_dot_w0_i v_i) v_j)), (v_r 44, .inl (cI, 4096, .inl v_dots_v))] : va_W) := by unfold m_Model_dot_w0_i; rfl
  rw [eW] at hP9 hD9
  exact W.iret (v := m_Model_dotAt_r v_dots_v a b) hx hb hr (fun t9 ht hW => ⟨⟨m_Model_dotAt_r v_dots_v a b, (), rfl, by unfold m_Model_dot_r; rfl, by rw [ht]; exact hP9, va_K.moved hW.alike hK, hD9⟩, hS.F ht⟩) hS.2.2 d_Model_dot_11

def m_Model_ended_w0_i (v_i : Nat → Int32) : Nat → Int32 := if ((v_i 103)) ≤ ((0 : Int32)) then upd (upd (upd (upd v_i 97 0) 98 0) 99 0) 103 0 else upd (upd (upd (upd (upd v_i 97 0) 98 0) 99 0) 47 (v_i 104)) 103 0
set_option maxHeartbeats 4000000 in
set_option maxRecDepth 100000 in
theorem c_Model_ended (l : Launch) (dC : Nat → ClassId) (dI : Nat → Nat → Nat) (sz : Nat) (h0 : Nat) (v_r : Nat → Nat) (v_i : Nat → Int32) (v_j : Nat → Int64) (cI : ClassId) (cJ : ClassId) (cB : ClassId)  : Met l y_Model_ended w_Model_ended ({ frames := 0, cells := 0, slots := 0, locals := 0 }) (va_Pc [.ref h0] (fun U => U.heap.size = sz ∧ va_P (dC, dI) classes [(h0, .inr (12, mo v_r v_i v_j))] U.heap ∧ va_K (dC, dI) classes [(cI, .int), (cJ, .long), (cB, .byte)] U ∧ va_D (fun _ => True) [(h0, .inr (12, mo v_r v_i v_j))])) (va_Qv (fun (_ : Unit) => True) (fun (_ : Unit) t => va_P (dC, dI) classes [(h0, .inr (12, mo v_r (m_Model_ended_w0_i v_i) v_j))] t.heap ∧ va_K (dC, dI) classes [(cI, .int), (cJ, .long), (cB, .byte)] t ∧ va_D (va_A [(h0, .inr (12, mo v_r v_i v_j))] sz) [(h0, .inr (12, mo v_r (m_Model_ended_w0_i v_i) v_j))]) (va_A [(h0, .inr (12, mo v_r v_i v_j))] sz)) 0 0 (va_A [(h0, .inr (12, mo v_r v_i v_j))] sz) := by
  refine Met.ofW (cc := b_Model_ended) (maxL := 1) (ret := none) (by decide) rfl ?_
  intro p e s m args below meth c s₁ B hml hv
  obtain ⟨rfl, hsz, hP, hK, hD0⟩ := hv
  have hx := B.exec
  have hb := B.bytes
  have hr := B.returns
  have hts := atoms_spec (ws := w_Model_ended) B.pre
  have htt : ∀ w ∈ tw_T, w.before _ s = true := fun w h => hts w (List.mem_cons_of_mem _ h)
  have hown : s.vm.findClass R_Model = some m.cls := findClass_of_methodNamed B.named
  have hlocks := B.notSynchronized
  subst hsz
  have hD := hD0.self (sz := s.heap.size)
  generalize hAe : va_A [(h0, .inr (12, mo v_r v_i v_j))] s.heap.size = A at hD ⊢
  have hA : ∀ q : Nat, s.heap.size ≤ q → A q := fun q h => by rw [← hAe]; exact Or.inr h
  have hS : va_S A s.heap s.heap [] := va_S.rf
  have hP : va_P (dC, dI) classes [(h0, .inr (12, mo v_r v_i v_j))] s.heap := hP
  have hl := lv_entry ([.ref h0]) (n := 1) (Nat.le_of_ble_eq_true rfl)
  rw [lg_entry_eq]
  generalize (lg_sl ([.ref h0]) ++ List.replicate (1 - (lg_sl ([.ref h0])).length) Slot.unset).toArray = ls at hl ⊢
  have hl : lv_has ls 1 [(0, .ref h0)] := hl
  refine lv_aload_n hx hb d_Model_ended_0 rfl (lv_at hl 0 rfl) ?_
  refine lv_iconst (v := 0) hx hb d_Model_ended_1 (by decide) ?_
  refine va_put (D := (dC, dI)) (ci := 12) (v := .int 0) (ty := .int) (C := R_Model) (T := F_Model) (N := 127) hx hb htt iw_Model t_Model t_Model_ok n_Model hown hK hP hD hS 0 rfl rfl 97 (by decide) (htt _ lk_Model_532) (fun _ h9 => h9) rfl (by decide +kernel) rfl rfl (Nat.le_of_ble_eq_true rfl) d_Model_ended_2 (fun H locs hP hD hS => ?_)
  have hP : va_P (dC, dI) classes [(h0, .inr (12, mo v_r (upd v_i 97 0) v_j))] H := hP
  have hD : va_D A [(h0, .inr (12, mo v_r (upd v_i 97 0) v_j))] := hD
  refine lv_aload_n hx hb d_Model_ended_5 rfl (lv_at hl 0 rfl) ?_
  refine lv_iconst (v := 0) hx hb d_Model_ended_6 (by decide) ?_
  refine va_put (D := (dC, dI)) (ci := 12) (v := .int 0) (ty := .int) (C := R_Model) (T := F_Model) (N := 127) hx hb htt iw_Model t_Model t_Model_ok n_Model hown hK hP hD hS 0 rfl rfl 98 (by decide) (htt _ lk_Model_535) (fun _ h9 => h9) rfl (by decide +kernel) rfl rfl (Nat.le_of_ble_eq_true rfl) d_Model_ended_7 (fun H locs hP hD hS => ?_)
  have hP : va_P (dC, dI) classes [(h0, .inr (12, mo v_r (upd (upd v_i 97 0) 98 0) v_j))] H := hP
  have hD : va_D A [(h0, .inr (12, mo v_r (upd (upd v_i 97 0) 98 0) v_j))] := hD
  refine lv_aload_n hx hb d_Model_ended_10 rfl (lv_at hl 0 rfl) ?_
  refine lv_iconst (v := 0) hx hb d_Model_ended_11 (by decide) ?_
  refine va_put (D := (dC, dI)) (ci := 12) (v := .int 0) (ty := .int) (C := R_Model) (T := F_Model) (N := 127) hx hb htt iw_Model t_Model t_Model_ok n_Model hown hK hP hD hS 0 rfl rfl 99 (by decide) (htt _ lk_Model_538) (fun _ h9 => h9) rfl (by decide +kernel) rfl rfl (Nat.le_of_ble_eq_true rfl) d_Model_ended_12 (fun H locs hP hD hS => ?_)
  have hP : va_P (dC, dI) classes [(h0, .inr (12, mo v_r (upd (upd (upd v_i 97 0) 98 0) 99 0) v_j))] H := hP
  have hD : va_D A [(h0, .inr (12, mo v_r (upd (upd (upd v_i 97 0) 98 0) 99 0) v_j))] := hD
  refine lv_aload_n hx hb d_Model_ended_15 rfl (lv_at hl 0 rfl) ?_
  refine va_get (D := (dC, dI)) (ci := 12) (v := .int (v_i 103)) (C := R_Model) (T := F_Model) (N := 127) hx hb htt iw_Model hown hK hP 0 rfl rfl 103 (by decide) (htt _ lk_Model_541) (fun _ h9 => h9) rfl d_Model_ended_16 ?_
  refine lv_if_le (tgt := 30) hx hb d_Model_ended_19 (by decide) (fun c_1 => ?_) (fun c_1 => ?_)
  · refine lv_aload_n hx hb d_Model_ended_30 rfl (lv_at hl 0 rfl) ?_
    refine lv_iconst (v := 0) hx hb d_Model_ended_31 (by decide) ?_
    refine va_put (D := (dC, dI)) (ci := 12) (v := .int 0) (ty := .int) (C := R_Model) (T := F_Model) (N := 127) hx hb htt iw_Model t_Model t_Model_ok n_Model hown hK hP hD hS 0 rfl rfl 103 (by decide) (htt _ lk_Model_541) (fun _ h9 => h9) rfl (by decide +kernel) rfl rfl (Nat.le_of_ble_eq_true rfl) d_Model_ended_32 (fun H locs hP hD hS => ?_)
    have hP : va_P (dC, dI) classes [(h0, .inr (12, mo v_r (upd (upd (upd (upd v_i 97 0) 98 0) 99 0) 103 0) v_j))] H := hP
    have hD : va_D A [(h0, .inr (12, mo v_r (upd (upd (upd (upd v_i 97 0) 98 0) 99 0) 103 0) v_j))] := hD
    have hP9 := hP.sub (ws' := [(h0, .inr (12, mo v_r (upd (upd (upd (upd v_i 97 0) 98 0) 99 0) 103 0) v_j))]) [0] rfl
    have hD9 := hD.sub (ws' := [(h0, .inr (12, mo v_r (upd (upd (upd (upd v_i 97 0) 98 0) 99 0) 103 0) v_j))]) [0] (by decide) rfl
    have eW : [(h0, .inr (12, mo v_r (upd (upd (upd (upd v_i 97 0) 98 0) 99 0) 103 0) v_j))] = ([(h0, .inr (12, mo v_r (m_Model_ended_w0_i v_i) v_j))] : va_W) := by unfold m_Model_ended_w0_i; simp only [if_pos c_1]
    rw [eW] at hP9 hD9
    exact W.vret hx hb hr (fun t9 ht hW => ⟨⟨(), rfl, trivial, by rw [ht]; exact hP9, va_K.moved hW.alike hK, hD9⟩, hS.F ht⟩) hS.2.2 d_Model_ended_35
  · refine lv_aload_n hx hb d_Model_ended_22 rfl (lv_at hl 0 rfl) ?_
    refine lv_aload_n hx hb d_Model_ended_23 rfl (lv_at hl 0 rfl) ?_
    refine va_get (D := (dC, dI)) (ci := 12) (v := .int (v_i 104)) (C := R_Model) (T := F_Model) (N := 127) hx hb htt iw_Model hown hK hP 0 rfl rfl 104 (by decide) (htt _ lk_Model_544) (fun _ h9 => h9) rfl d_Model_ended_24 ?_
    refine lv_topi (fun x_2 ex_2 => ?_)
    refine va_put (D := (dC, dI)) (ci := 12) (v := .int x_2) (ty := .int) (C := R_Model) (T := F_Model) (N := 127) hx hb htt iw_Model t_Model t_Model_ok n_Model hown hK hP hD hS 0 rfl rfl 47 (by decide) (htt _ lk_Model_366) (fun _ h9 => h9) rfl (by decide +kernel) rfl rfl (Nat.le_of_ble_eq_true rfl) d_Model_ended_27 (fun H locs hP hD hS => ?_)
    have hP : va_P (dC, dI) classes [(h0, .inr (12, mo v_r (upd (upd (upd (upd v_i 97 0) 98 0) 99 0) 47 x_2) v_j))] H := hP
    have hD : va_D A [(h0, .inr (12, mo v_r (upd (upd (upd (upd v_i 97 0) 98 0) 99 0) 47 x_2) v_j))] := hD
    refine lv_aload_n hx hb d_Model_ended_30 rfl (lv_at hl 0 rfl) ?_
    refine lv_iconst (v := 0) hx hb d_Model_ended_31 (by decide) ?_
    refine va_put (D := (dC, dI)) (ci := 12) (v := .int 0) (ty := .int) (C := R_Model) (T := F_Model) (N := 127) hx hb htt iw_Model t_Model t_Model_ok n_Model hown hK hP hD hS 0 rfl rfl 103 (by decide) (htt _ lk_Model_541) (fun _ h9 => h9) rfl (by decide +kernel) rfl rfl (Nat.le_of_ble_eq_true rfl) d_Model_ended_32 (fun H locs hP hD hS => ?_)
    have hP : va_P (dC, dI) classes [(h0, .inr (12, mo v_r (upd (upd (upd (upd (upd v_i 97 0) 98 0) 99 0) 47 x_2) 103 0) v_j))] H := hP
    have hD : va_D A [(h0, .inr (12, mo v_r (upd (upd (upd (upd (upd v_i 97 0) 98 0) 99 0) 47 x_2) 103 0) v_j))] := hD
    subst ex_2
    have hP9 := hP.sub (ws' := [(h0, .inr (12, mo v_r (upd (upd (upd (upd (upd v_i 97 0) 98 0) 99 0) 47 (v_i 104)) 103 0) v_j))]) [0] rfl
    have hD9 := hD.sub (ws' := [(h0, .inr (12, mo v_r (upd (upd (upd (upd (upd v_i 97 0) 98 0) 99 0) 47 (v_i 104)) 103 0) v_j))]) [0] (by decide) rfl
    have eW : [(h0, .inr (12, mo v_r (upd (upd (upd (upd (upd v_i 97 0) 98 0) 99 0) 47 (v_i 104)) 103 0) v_j))] = ([(h0, .inr (12, mo v_r (m_Model_ended_w0_i v_i) v_j))] : va_W) := by unfold m_Model_ended_w0_i; simp only [if_neg c_1]
    rw [eW] at hP9 hD9
    exact W.vret hx hb hr (fun t9 ht hW => ⟨⟨(), rfl, trivial, by rw [ht]; exact hP9, va_K.moved hW.alike hK, hD9⟩, hS.F ht⟩) hS.2.2 d_Model_ended_35

def m_Model_stop_r (v_i : Nat → Int32) : Int32 := if ((v_i 92)) = ((1 : Int32)) then 1 else 0
theorem m_Model_stop_z {v_i : Nat → Int32} : narrow .boolean (.int (m_Model_stop_r v_i)) = .int (m_Model_stop_r v_i) := by
  unfold m_Model_stop_r
  repeat' split
  all_goals first | rfl | rfl | decide
def m_Model_stop_w0_i (v_i : Nat → Int32) : Nat → Int32 := if ((v_i 92)) = ((1 : Int32)) then m_Model_ended_w0_i (upd (upd v_i 0 0) 92 4) else upd v_i 0 0
set_option maxHeartbeats 4000000 in
set_option maxRecDepth 100000 in
theorem c_Model_stop (l : Launch) (dC : Nat → ClassId) (dI : Nat → Nat → Nat) (sz : Nat) (h0 : Nat) (v_r : Nat → Nat) (v_i : Nat → Int32) (v_j : Nat → Int64) (cI : ClassId) (cJ : ClassId) (cB : ClassId)  : Met l y_Model_stop w_Model_stop ({ frames := 1, cells := 0, slots := 0, locals := 20 }) (va_Pc [.ref h0] (fun U => U.heap.size = sz ∧ va_P (dC, dI) classes [(h0, .inr (12, mo v_r v_i v_j))] U.heap ∧ va_K (dC, dI) classes [(cI, .int), (cJ, .long), (cB, .byte)] U ∧ va_D (fun _ => True) [(h0, .inr (12, mo v_r v_i v_j))])) (va_Qi (fun (r : Int32) (_ : Unit) => r = m_Model_stop_r v_i) (fun (_ : Unit) t => va_P (dC, dI) classes [(h0, .inr (12, mo v_r (m_Model_stop_w0_i v_i) v_j))] t.heap ∧ va_K (dC, dI) classes [(cI, .int), (cJ, .long), (cB, .byte)] t ∧ va_D (va_A [(h0, .inr (12, mo v_r v_i v_j))] sz) [(h0, .inr (12, mo v_r (m_Model_stop_w0_i v_i) v_j))]) (va_A [(h0, .inr (12, mo v_r v_i v_j))] sz)) 0 0 (va_A [(h0, .inr (12, mo v_r v_i v_j))] sz) := by
  refine Met.ofW (cc := b_Model_stop) (maxL := 1) (ret := (some .boolean)) (by decide) rfl ?_
  intro p e s m args below meth c s₁ B hml hv
  obtain ⟨rfl, hsz, hP, hK, hD0⟩ := hv
  have hx := B.exec
  have hb := B.bytes
  have hr := B.returns
  have hts := atoms_spec (ws := w_Model_stop) B.pre
  have htt : ∀ w ∈ tw_T, w.before _ s = true := fun w h => hts w (List.mem_cons_of_mem _ h)
  have hown : s.vm.findClass R_Model = some m.cls := findClass_of_methodNamed B.named
  have hlocks := B.notSynchronized
  subst hsz
  have hD := hD0.self (sz := s.heap.size)
  generalize hAe : va_A [(h0, .inr (12, mo v_r v_i v_j))] s.heap.size = A at hD ⊢
  have hA : ∀ q : Nat, s.heap.size ≤ q → A q := fun q h => by rw [← hAe]; exact Or.inr h
  have hS : va_S A s.heap s.heap [] := va_S.rf
  have hP : va_P (dC, dI) classes [(h0, .inr (12, mo v_r v_i v_j))] s.heap := hP
  have hl := lv_entry ([.ref h0]) (n := 1) (Nat.le_of_ble_eq_true rfl)
  rw [lg_entry_eq]
  generalize (lg_sl ([.ref h0]) ++ List.replicate (1 - (lg_sl ([.ref h0])).length) Slot.unset).toArray = ls at hl ⊢
  have hl : lv_has ls 1 [(0, .ref h0)] := hl
  refine lv_aload_n hx hb d_Model_stop_0 rfl (lv_at hl 0 rfl) ?_
  refine lv_iconst (v := 0) hx hb d_Model_stop_1 (by decide) ?_
  refine va_put (D := (dC, dI)) (ci := 12) (v := .int 0) (ty := .int) (C := R_Model) (T := F_Model) (N := 127) hx hb htt iw_Model t_Model t_Model_ok n_Model hown hK hP hD hS 0 rfl rfl 0 (by decide) (htt _ lk_Model_1) (fun _ h9 => h9) rfl (by decide +kernel) rfl rfl (Nat.le_of_ble_eq_true rfl) d_Model_stop_2 (fun H locs hP hD hS => ?_)
  have hP : va_P (dC, dI) classes [(h0, .inr (12, mo v_r (upd v_i 0 0) v_j))] H := hP
  have hD : va_D A [(h0, .inr (12, mo v_r (upd v_i 0 0) v_j))] := hD
  refine lv_aload_n hx hb d_Model_stop_5 rfl (lv_at hl 0 rfl) ?_
  refine va_get (D := (dC, dI)) (ci := 12) (v := .int (v_i 92)) (C := R_Model) (T := F_Model) (N := 127) hx hb htt iw_Model hown hK hP 0 rfl rfl 92 (by decide) (htt _ lk_Model_494) (fun _ h9 => h9) rfl d_Model_stop_6 ?_
  refine lv_iconst (v := 1) hx hb d_Model_stop_9 (by decide) ?_
  refine lv_icmp_eq (tgt := 15) hx hb d_Model_stop_10 (by decide) (fun c_1 => ?_) (fun c_1 => ?_)
  · refine lv_aload_n hx hb d_Model_stop_15 rfl (lv_at hl 0 rfl) ?_
    refine lv_iconst (v := 4) hx hb d_Model_stop_16 (by decide) ?_
    refine va_put (D := (dC, dI)) (ci := 12) (v := .int 4) (ty := .int) (C := R_Model) (T := F_Model) (N := 127) hx hb htt iw_Model t_Model t_Model_ok n_Model hown hK hP hD hS 0 rfl rfl 92 (by decide) (htt _ lk_Model_494) (fun _ h9 => h9) rfl (by decide +kernel) rfl rfl (Nat.le_of_ble_eq_true rfl) d_Model_stop_17 (fun H locs hP hD hS => ?_)
    have hP : va_P (dC, dI) classes [(h0, .inr (12, mo v_r (upd (upd v_i 0 0) 92 4) v_j))] H := hP
    have hD : va_D A [(h0, .inr (12, mo v_r (upd (upd v_i 0 0) 92 4) v_j))] := hD
    refine lv_aload_n hx hb d_Model_stop_20 rfl (lv_at hl 0 rfl) ?_
    have hPc := hP.sub (ws' := [(h0, .inr (12, mo v_r ((upd (upd v_i 0 0) 92 4)) v_j))]) [0] rfl
    have hDc := hD.sub (ws' := [(h0, .inr (12, mo v_r ((upd (upd v_i 0 0) 92 4)) v_j))]) [0] (by decide) rfl
    have hKc := hK.sub (tys' := [(cI, .int), (cJ, .long), (cB, .byte)]) [0, 1, 2] rfl
    have hFc := va_free (wc := [(h0, .inr (12, mo v_r ((upd (upd v_i 0 0) 92 4)) v_j))]) hD hS hA [0] rfl
    refine va_callv (va_runV (As := []) (rest := []) ⟨hx, hb, hml, hown, hts⟩ (c_Model_ended l dC dI H.size h0 v_r (upd (upd v_i 0 0) 92 4) v_j cI cJ cB) (cwV 0 hts (tw_GV tw_cons cw_Model_ended lk_Model_529 in_Model_ended sel_Model_ended ini_Model) rfl rfl rfl (by decide +kernel) ⟨Nat.le_of_ble_eq_true rfl, Nat.le_of_ble_eq_true rfl⟩) ⟨fun a U g mk q => by obtain ⟨q0, q1, qP, qK, qD⟩ := q; exact ⟨q0, q1, qP, va_K.moved (u := U) (U := U.calling g mk a) (Vm.Alike.refl U.vm) qK, qD⟩, va_recv hKc hPc (ci := 12) (q0 := 0) rfl rfl, fun U hU hW => ⟨rfl, by rw [hU], by rw [hU]; exact hPc, va_K.moved hW.alike hKc, hDc.weaken (fun _ _ _ _ => trivial)⟩⟩ rfl rfl hl.1 rfl (lv_room (Nat.le_of_ble_eq_true rfl)) d_Model_stop_21 ⟨Nat.le_of_ble_eq_true rfl, Nat.le_of_ble_eq_true rfl⟩) hS (fun q _ h => hFc q h) hFc (fun u9 t9 H1 locs ht hvm e9 hB hz1 hk1 hS => ?_)
    obtain ⟨hP1, hK1, hD1⟩ := hB
    rw [ht] at hP1
    obtain ⟨hP, hD⟩ := va_join (wr := []) (w1 := [(h0, .inr (12, mo v_r (m_Model_ended_w0_i (upd (upd v_i 0 0) 92 4)) v_j))]) hP hD [0] [] rfl rfl (by decide) (by decide) hk1 hFc hP1 hD1
    clear hP1 hD1 hK1 hvm hz1 hk1 hFc hKc hDc hPc
    subst ht
    generalize t9.heap = H at hP hS ⊢
    have hP : va_P (dC, dI) classes [(h0, .inr (12, mo v_r (m_Model_ended_w0_i (upd (upd v_i 0 0) 92 4)) v_j))] H := hP
    have hD : va_D A [(h0, .inr (12, mo v_r (m_Model_ended_w0_i (upd (upd v_i 0 0) 92 4)) v_j))] := hD
    refine lv_iconst (v := 1) hx hb d_Model_stop_24 (by decide) ?_
    have hP9 := hP.sub (ws' := [(h0, .inr (12, mo v_r (m_Model_ended_w0_i (upd (upd v_i 0 0) 92 4)) v_j))]) [0] rfl
    have hD9 := hD.sub (ws' := [(h0, .inr (12, mo v_r (m_Model_ended_w0_i (upd (upd v_i 0 0) 92 4)) v_j))]) [0] (by decide) rfl
    have eW : [(h0, .inr (12, mo v_r (m_Model_ended_w0_i (upd (upd v_i 0 0) 92 4)) v_j))] = ([(h0, .inr (12, mo v_r (m_Model_stop_w0_i v_i) v_j))] : va_W) := by unfold m_Model_stop_w0_i; simp only [if_pos c_1]
    rw [eW] at hP9 hD9
    exact W.zret (v := 1) hx hb hr (by decide) (fun t9 ht hW => ⟨⟨1, (), rfl, by unfold m_Model_stop_r; simp only [if_pos c_1], by rw [ht]; exact hP9, va_K.moved hW.alike hK, hD9⟩, hS.F ht⟩) hS.2.2 d_Model_stop_25
  · refine lv_iconst (v := 0) hx hb d_Model_stop_13 (by decide) ?_
    have hP9 := hP.sub (ws' := [(h0, .inr (12, mo v_r (upd v_i 0 0) v_j))]) [0] rfl
    have hD9 := hD.sub (ws' := [(h0, .inr (12, mo v_r (upd v_i 0 0) v_j))]) [0] (by decide) rfl
    have eW : [(h0, .inr (12, mo v_r (upd v_i 0 0) v_j))] = ([(h0, .inr (12, mo v_r (m_Model_stop_w0_i v_i) v_j))] : va_W) := by unfold m_Model_stop_w0_i; simp only [if_neg c_1]
    rw [eW] at hP9 hD9
    exact W.zret (v := 0) hx hb hr (by decide) (fun t9 ht hW => ⟨⟨0, (), rfl, by unfold m_Model_stop_r; simp only [if_neg c_1], by rw [ht]; exact hP9, va_K.moved hW.alike hK, hD9⟩, hS.F ht⟩) hS.2.2 d_Model_stop_14

def m_Model_fails_r  : Int64 := 3
def m_Model_fails_w0_i (v_i : Nat → Int32) (a : Int32) : Nat → Int32 := upd (upd v_i 102 2) 126 a
set_option maxHeartbeats 4000000 in
set_option maxRecDepth 100000 in
theorem c_Model_fails (l : Launch) (dC : Nat → ClassId) (dI : Nat → Nat → Nat) (sz : Nat) (h0 : Nat) (v_r : Nat → Nat) (v_i : Nat → Int32) (v_j : Nat → Int64) (cI : ClassId) (cJ : ClassId) (cB : ClassId) (a : Int32)  : Met l y_Model_fails w_Model_fails ({ frames := 0, cells := 0, slots := 0, locals := 0 }) (va_Pc [.ref h0, .int a] (fun U => U.heap.size = sz ∧ va_P (dC, dI) classes [(h0, .inr (12, mo v_r v_i v_j))] U.heap ∧ va_K (dC, dI) classes [(cI, .int), (cJ, .long), (cB, .byte)] U ∧ va_D (fun _ => True) [(h0, .inr (12, mo v_r v_i v_j))])) (va_Ql (fun (r : Int64) (_ : Unit) => r = m_Model_fails_r) (fun (_ : Unit) t => va_P (dC, dI) classes [(h0, .inr (12, mo v_r (m_Model_fails_w0_i v_i a) v_j))] t.heap ∧ va_K (dC, dI) classes [(cI, .int), (cJ, .long), (cB, .byte)] t ∧ va_D (va_A [(h0, .inr (12, mo v_r v_i v_j))] sz) [(h0, .inr (12, mo v_r (m_Model_fails_w0_i v_i a) v_j))]) (va_A [(h0, .inr (12, mo v_r v_i v_j))] sz)) 0 0 (va_A [(h0, .inr (12, mo v_r v_i v_j))] sz) := by
  refine Met.ofW (cc := b_Model_fails) (maxL := 2) (ret := (some .long)) (by decide) rfl ?_
  intro p e s m args below meth c s₁ B hml hv
  obtain ⟨rfl, hsz, hP, hK, hD0⟩ := hv
  have hx := B.exec
  have hb := B.bytes
  have hr := B.returns
  have hts := atoms_spec (ws := w_Model_fails) B.pre
  have htt : ∀ w ∈ tw_T, w.before _ s = true := fun w h => hts w (List.mem_cons_of_mem _ h)
  have hown : s.vm.findClass R_Model = some m.cls := findClass_of_methodNamed B.named
  have hlocks := B.notSynchronized
  subst hsz
  have hD := hD0.self (sz := s.heap.size)
  generalize hAe : va_A [(h0, .inr (12, mo v_r v_i v_j))] s.heap.size = A at hD ⊢
  have hA : ∀ q : Nat, s.heap.size ≤ q → A q := fun q h => by rw [← hAe]; exact Or.inr h
  have hS : va_S A s.heap s.heap [] := va_S.rf
  have hP : va_P (dC, dI) classes [(h0, .inr (12, mo v_r v_i v_j))] s.heap := hP
  have hl := lv_entry ([.ref h0, .int a]) (n := 2) (Nat.le_of_ble_eq_true rfl)
  rw [lg_entry_eq]
  generalize (lg_sl ([.ref h0, .int a]) ++ List.replicate (2 - (lg_sl ([.ref h0, .int a])).length) Slot.unset).toArray = ls at hl ⊢
  have hl : lv_has ls 2 [(0, .ref h0), (1, .int a)] := hl
  refine lv_aload_n hx hb d_Model_fails_0 rfl (lv_at hl 0 rfl) ?_
  refine lv_iconst (v := 2) hx hb d_Model_fails_1 (by decide) ?_
  refine va_put (D := (dC, dI)) (ci := 12) (v := .int 2) (ty := .int) (C := R_Model) (T := F_Model) (N := 127) hx hb htt iw_Model t_Model t_Model_ok n_Model hown hK hP hD hS 0 rfl rfl 102 (by decide) (htt _ lk_Model_559) (fun _ h9 => h9) rfl (by decide +kernel) rfl rfl (Nat.le_of_ble_eq_true rfl) d_Model_fails_2 (fun H locs hP hD hS => ?_)
  have hP : va_P (dC, dI) classes [(h0, .inr (12, mo v_r (upd v_i 102 2) v_j))] H := hP
  have hD : va_D A [(h0, .inr (12, mo v_r (upd v_i 102 2) v_j))] := hD
  refine lv_aload_n hx hb d_Model_fails_5 rfl (lv_at hl 0 rfl) ?_
  refine lv_iload_n hx hb d_Model_fails_6 rfl (lv_at hl 1 rfl) ?_
  refine va_put (D := (dC, dI)) (ci := 12) (v := .int a) (ty := .int) (C := R_Model) (T := F_Model) (N := 127) hx hb htt iw_Model t_Model t_Model_ok n_Model hown hK hP hD hS 0 rfl rfl 126 (by decide) (htt _ lk_Model_599) (fun _ h9 => h9) rfl (by decide +kernel) rfl rfl (Nat.le_of_ble_eq_true rfl) d_Model_fails_7 (fun H locs hP hD hS => ?_)
  have hP : va_P (dC, dI) classes [(h0, .inr (12, mo v_r (upd (upd v_i 102 2) 126 a) v_j))] H := hP
  have hD : va_D A [(h0, .inr (12, mo v_r (upd (upd v_i 102 2) 126 a) v_j))] := hD
  refine lv_ldc2 (v := 3) hx hb hown (htt _ lk_Model_7) d_Model_fails_10 ?_
  have hP9 := hP.sub (ws' := [(h0, .inr (12, mo v_r (upd (upd v_i 102 2) 126 a) v_j))]) [0] rfl
  have hD9 := hD.sub (ws' := [(h0, .inr (12, mo v_r (upd (upd v_i 102 2) 126 a) v_j))]) [0] (by decide) rfl
  have eW : [(h0, .inr (12, mo v_r (upd (upd v_i 102 2) 126 a) v_j))] = ([(h0, .inr (12, mo v_r (m_Model_fails_w0_i v_i a) v_j))] : va_W) := by unfold m_Model_fails_w0_i; rfl
  rw [eW] at hP9 hD9
  exact W.lret (v := 3) hx hb hr (fun t9 ht hW => ⟨⟨3, (), rfl, by unfold m_Model_fails_r; rfl, by rw [ht]; exact hP9, va_K.moved hW.alike hK, hD9⟩, hS.F ht⟩) hS.2.2 d_Model_fails_13

def m_Model_waits_r (v_i : Nat → Int32) : Int32 := if ((v_i 98)) = ((400 : Int32)) then 0 else 1
theorem m_Model_waits_z {v_i : Nat → Int32} : narrow .boolean (.int (m_Model_waits_r v_i)) = .int (m_Model_waits_r v_i) := by
  unfold m_Model_waits_r
  repeat' split
  all_goals first | rfl | rfl | decide
def m_Model_waits_w0_i (v_i : Nat → Int32) : Nat → Int32 := if ((v_i 98)) = ((400 : Int32)) then m_Model_fails_w0_i v_i 6 else upd v_i 98 ((v_i 98) + 1)
set_option maxHeartbeats 4000000 in
set_option maxRecDepth 100000 in
theorem c_Model_waits (l : Launch) (dC : Nat → ClassId) (dI : Nat → Nat → Nat) (sz : Nat) (h0 : Nat) (v_r : Nat → Nat) (v_i : Nat → Int32) (v_j : Nat → Int64) (cI : ClassId) (cJ : ClassId) (cB : ClassId)  : Met l y_Model_waits w_Model_waits ({ frames := 1, cells := 0, slots := 0, locals := 21 }) (va_Pc [.ref h0] (fun U => U.heap.size = sz ∧ va_P (dC, dI) classes [(h0, .inr (12, mo v_r v_i v_j))] U.heap ∧ va_K (dC, dI) classes [(cI, .int), (cJ, .long), (cB, .byte)] U ∧ va_D (fun _ => True) [(h0, .inr (12, mo v_r v_i v_j))])) (va_Qi (fun (r : Int32) (_ : Unit) => r = m_Model_waits_r v_i) (fun (_ : Unit) t => va_P (dC, dI) classes [(h0, .inr (12, mo v_r (m_Model_waits_w0_i v_i) v_j))] t.heap ∧ va_K (dC, dI) classes [(cI, .int), (cJ, .long), (cB, .byte)] t ∧ va_D (va_A [(h0, .inr (12, mo v_r v_i v_j))] sz) [(h0, .inr (12, mo v_r (m_Model_waits_w0_i v_i) v_j))]) (va_A [(h0, .inr (12, mo v_r v_i v_j))] sz)) 0 0 (va_A [(h0, .inr (12, mo v_r v_i v_j))] sz) := by
  refine Met.ofW (cc := b_Model_waits) (maxL := 1) (ret := (some .boolean)) (by decide) rfl ?_
  intro p e s m args below meth c s₁ B hml hv
  obtain ⟨rfl, hsz, hP, hK, hD0⟩ := hv
  have hx := B.exec
  have hb := B.bytes
  have hr := B.returns
  have hts := atoms_spec (ws := w_Model_waits) B.pre
  have htt : ∀ w ∈ tw_T, w.before _ s = true := fun w h => hts w (List.mem_cons_of_mem _ h)
  have hown : s.vm.findClass R_Model = some m.cls := findClass_of_methodNamed B.named
  have hlocks := B.notSynchronized
  subst hsz
  have hD := hD0.self (sz := s.heap.size)
  generalize hAe : va_A [(h0, .inr (12, mo v_r v_i v_j))] s.heap.size = A at hD ⊢
  have hA : ∀ q : Nat, s.heap.size ≤ q → A q := fun q h => by rw [← hAe]; exact Or.inr h
  have hS : va_S A s.heap s.heap [] := va_S.rf
  have hP : va_P (dC, dI) classes [(h0, .inr (12, mo v_r v_i v_j))] s.heap := hP
  have hl := lv_entry ([.ref h0]) (n := 1) (Nat.le_of_ble_eq_true rfl)
  rw [lg_entry_eq]
  generalize (lg_sl ([.ref h0]) ++ List.replicate (1 - (lg_sl ([.ref h0])).length) Slot.unset).toArray = ls at hl ⊢
  have hl : lv_has ls 1 [(0, .ref h0)] := hl
  refine lv_aload_n hx hb d_Model_waits_0 rfl (lv_at hl 0 rfl) ?_
  refine va_get (D := (dC, dI)) (ci := 12) (v := .int (v_i 98)) (C := R_Model) (T := F_Model) (N := 127) hx hb htt iw_Model hown hK hP 0 rfl rfl 98 (by decide) (htt _ lk_Model_535) (fun _ h9 => h9) rfl d_Model_waits_1 ?_
  refine lv_sipush (v := 400) hx hb d_Model_waits_4 (by decide) ?_
  refine lv_icmp_ne (tgt := 19) hx hb d_Model_waits_7 (by decide) (fun c_1 => ?_) (fun c_1 => ?_)
  · refine lv_aload_n hx hb d_Model_waits_19 rfl (lv_at hl 0 rfl) ?_
    refine lv_dup hx hb d_Model_waits_20 rfl ?_
    refine va_get (D := (dC, dI)) (ci := 12) (v := .int (v_i 98)) (C := R_Model) (T := F_Model) (N := 127) hx hb htt iw_Model hown hK hP 0 rfl rfl 98 (by decide) (htt _ lk_Model_535) (fun _ h9 => h9) rfl d_Model_waits_21 ?_
    refine lv_iconst (v := 1) hx hb d_Model_waits_24 (by decide) ?_
    refine lv_iadd hx hb d_Model_waits_25 ?_
    refine lv_topi (fun x_2 ex_2 => ?_)
    refine va_put (D := (dC, dI)) (ci := 12) (v := .int x_2) (ty := .int) (C := R_Model) (T := F_Model) (N := 127) hx hb htt iw_Model t_Model t_Model_ok n_Model hown hK hP hD hS 0 rfl rfl 98 (by decide) (htt _ lk_Model_535) (fun _ h9 => h9) rfl (by decide +kernel) rfl rfl (Nat.le_of_ble_eq_true rfl) d_Model_waits_26 (fun H locs hP hD hS => ?_)
    have hP : va_P (dC, dI) classes [(h0, .inr (12, mo v_r (upd v_i 98 x_2) v_j))] H := hP
    have hD : va_D A [(h0, .inr (12, mo v_r (upd v_i 98 x_2) v_j))] := hD
    refine lv_iconst (v := 1) hx hb d_Model_waits_29 (by decide) ?_
    subst ex_2
    have hP9 := hP.sub (ws' := [(h0, .inr (12, mo v_r (upd v_i 98 ((v_i 98) + 1)) v_j))]) [0] rfl
    have hD9 := hD.sub (ws' := [(h0, .inr (12, mo v_r (upd v_i 98 ((v_i 98) + 1)) v_j))]) [0] (by decide) rfl
    have eW : [(h0, .inr (12, mo v_r (upd v_i 98 ((v_i 98) + 1)) v_j))] = ([(h0, .inr (12, mo v_r (m_Model_waits_w0_i v_i) v_j))] : va_W) := by unfold m_Model_waits_w0_i; simp only [if_neg c_1]
    rw [eW] at hP9 hD9
    exact W.zret (v := 1) hx hb hr (by decide) (fun t9 ht hW => ⟨⟨1, (), rfl, by unfold m_Model_waits_r; simp only [if_neg c_1], by rw [ht]; exact hP9, va_K.moved hW.alike hK, hD9⟩, hS.F ht⟩) hS.2.2 d_Model_waits_30
  · refine lv_aload_n hx hb d_Model_waits_10 rfl (lv_at hl 0 rfl) ?_
    refine lv_bipush (v := 6) hx hb d_Model_waits_11 (by decide) ?_
    have hPc := hP.sub (ws' := [(h0, .inr (12, mo v_r v_i v_j))]) [0] rfl
    have hDc := hD.sub (ws' := [(h0, .inr (12, mo v_r v_i v_j))]) [0] (by decide) rfl
    have hKc := hK.sub (tys' := [(cI, .int), (cJ, .long), (cB, .byte)]) [0, 1, 2] rfl
    have hFc := va_free (wc := [(h0, .inr (12, mo v_r v_i v_j))]) hD hS hA [0] rfl
    refine va_calll (va_runV (As := [.int 6]) (rest := []) ⟨hx, hb, hml, hown, hts⟩ (c_Model_fails l dC dI s.heap.size h0 v_r v_i v_j cI cJ cB 6) (cwV 1 hts (tw_GV tw_cons cw_Model_fails lk_Model_596 in_Model_fails sel_Model_fails ini_Model) rfl rfl rfl (by decide +kernel) ⟨Nat.le_of_ble_eq_true rfl, Nat.le_of_ble_eq_true rfl⟩) ⟨fun a U g mk q => by obtain ⟨q0, q1, qP, qK, qD⟩ := q; exact ⟨q0, q1, qP, va_K.moved (u := U) (U := U.calling g mk a) (Vm.Alike.refl U.vm) qK, qD⟩, va_recv hKc hPc (ci := 12) (q0 := 0) rfl rfl, fun U hU hW => ⟨rfl, by rw [hU], by rw [hU]; exact hPc, va_K.moved hW.alike hKc, hDc.weaken (fun _ _ _ _ => trivial)⟩⟩ rfl rfl hl.1 rfl (lv_room (Nat.le_of_ble_eq_true rfl)) d_Model_waits_13 ⟨Nat.le_of_ble_eq_true rfl, Nat.le_of_ble_eq_true rfl⟩) hS (fun q _ h => hFc q h) hFc (fun r9 u9 t9 H1 locs ht hvm e9 hB hz1 hk1 hS => ?_)
    obtain ⟨hP1, hK1, hD1⟩ := hB
    rw [ht] at hP1
    obtain ⟨hP, hD⟩ := va_join (wr := []) (w1 := [(h0, .inr (12, mo v_r (m_Model_fails_w0_i v_i 6) v_j))]) hP hD [0] [] rfl rfl (by decide) (by decide) hk1 hFc hP1 hD1
    subst e9
    clear hP1 hD1 hK1 hvm hz1 hk1 hFc hKc hDc hPc
    subst ht
    generalize t9.heap = H at hP hS ⊢
    have hP : va_P (dC, dI) classes [(h0, .inr (12, mo v_r (m_Model_fails_w0_i v_i 6) v_j))] H := hP
    have hD : va_D A [(h0, .inr (12, mo v_r (m_Model_fails_w0_i v_i 6) v_j))] := hD
    refine lv_pop2_2 hx hb d_Model_waits_16 rfl ?_
    refine lv_iconst (v := 0) hx hb d_Model_waits_17 (by decide) ?_
    have hP9 := hP.sub (ws' := [(h0, .inr (12, mo v_r (m_Model_fails_w0_i v_i 6) v_j))]) [0] rfl
    have hD9 := hD.sub (ws' := [(h0, .inr (12, mo v_r (m_Model_fails_w0_i v_i 6) v_j))]) [0] (by decide) rfl
    have eW : [(h0, .inr (12, mo v_r (m_Model_fails_w0_i v_i 6) v_j))] = ([(h0, .inr (12, mo v_r (m_Model_waits_w0_i v_i) v_j))] : va_W) := by unfold m_Model_waits_w0_i; simp only [if_pos c_1]
    rw [eW] at hP9 hD9
    exact W.zret (v := 0) hx hb hr (by decide) (fun t9 ht hW => ⟨⟨0, (), rfl, by unfold m_Model_waits_r; simp only [if_pos c_1], by rw [ht]; exact hP9, va_K.moved hW.alike hK, hD9⟩, hS.F ht⟩) hS.2.2 d_Model_waits_18

def m_Model_makes_r (v_i : Nat → Int32) (a : Int32) : Int32 := if (((v_i 96) + a)) ≤ ((30000 : Int32)) then 1 else 0
theorem m_Model_makes_z {v_i : Nat → Int32} {a : Int32} : narrow .boolean (.int (m_Model_makes_r v_i a)) = .int (m_Model_makes_r v_i a) := by
  unfold m_Model_makes_r
  repeat' split
  all_goals first | rfl | rfl | decide
def m_Model_makes_w0_i (v_i : Nat → Int32) (a : Int32) : Nat → Int32 := if (((v_i 96) + a)) ≤ ((30000 : Int32)) then upd v_i 96 ((v_i 96) + a) else m_Model_fails_w0_i v_i 8
set_option maxHeartbeats 4000000 in
set_option maxRecDepth 100000 in
theorem c_Model_makes (l : Launch) (dC : Nat → ClassId) (dI : Nat → Nat → Nat) (sz : Nat) (h0 : Nat) (v_r : Nat → Nat) (v_i : Nat → Int32) (v_j : Nat → Int64) (cI : ClassId) (cJ : ClassId) (cB : ClassId) (a : Int32)  : Met l y_Model_makes w_Model_makes ({ frames := 1, cells := 0, slots := 0, locals := 21 }) (va_Pc [.ref h0, .int a] (fun U => U.heap.size = sz ∧ va_P (dC, dI) classes [(h0, .inr (12, mo v_r v_i v_j))] U.heap ∧ va_K (dC, dI) classes [(cI, .int), (cJ, .long), (cB, .byte)] U ∧ va_D (fun _ => True) [(h0, .inr (12, mo v_r v_i v_j))])) (va_Qi (fun (r : Int32) (_ : Unit) => r = m_Model_makes_r v_i a) (fun (_ : Unit) t => va_P (dC, dI) classes [(h0, .inr (12, mo v_r (m_Model_makes_w0_i v_i a) v_j))] t.heap ∧ va_K (dC, dI) classes [(cI, .int), (cJ, .long), (cB, .byte)] t ∧ va_D (va_A [(h0, .inr (12, mo v_r v_i v_j))] sz) [(h0, .inr (12, mo v_r (m_Model_makes_w0_i v_i a) v_j))]) (va_A [(h0, .inr (12, mo v_r v_i v_j))] sz)) 0 0 (va_A [(h0, .inr (12, mo v_r v_i v_j))] sz) := by
  refine Met.ofW (cc := b_Model_makes) (maxL := 2) (ret := (some .boolean)) (by decide) rfl ?_
  intro p e s m args below meth c s₁ B hml hv
  obtain ⟨rfl, hsz, hP, hK, hD0⟩ := hv
  have hx := B.exec
  have hb := B.bytes
  have hr := B.returns
  have hts := atoms_spec (ws := w_Model_makes) B.pre
  have htt : ∀ w ∈ tw_T, w.before _ s = true := fun w h => hts w (List.mem_cons_of_mem _ h)
  have hown : s.vm.findClass R_Model = some m.cls := findClass_of_methodNamed B.named
  have hlocks := B.notSynchronized
  subst hsz
  have hD := hD0.self (sz := s.heap.size)
  generalize hAe : va_A [(h0, .inr (12, mo v_r v_i v_j))] s.heap.size = A at hD ⊢
  have hA : ∀ q : Nat, s.heap.size ≤ q → A q := fun q h => by rw [← hAe]; exact Or.inr h
  have hS : va_S A s.heap s.heap [] := va_S.rf
  have hP : va_P (dC, dI) classes [(h0, .inr (12, mo v_r v_i v_j))] s.heap := hP
  have hl := lv_entry ([.ref h0, .int a]) (n := 2) (Nat.le_of_ble_eq_true rfl)
  rw [lg_entry_eq]
  generalize (lg_sl ([.ref h0, .int a]) ++ List.replicate (2 - (lg_sl ([.ref h0, .int a])).length) Slot.unset).toArray = ls at hl ⊢
  have hl : lv_has ls 2 [(0, .ref h0), (1, .int a)] := hl
  refine lv_aload_n hx hb d_Model_makes_0 rfl (lv_at hl 0 rfl) ?_
  refine va_get (D := (dC, dI)) (ci := 12) (v := .int (v_i 96)) (C := R_Model) (T := F_Model) (N := 127) hx hb htt iw_Model hown hK hP 0 rfl rfl 96 (by decide) (htt _ lk_Model_556) (fun _ h9 => h9) rfl d_Model_makes_1 ?_
  refine lv_iload_n hx hb d_Model_makes_4 rfl (lv_at hl 1 rfl) ?_
  refine lv_iadd hx hb d_Model_makes_5 ?_
  refine lv_sipush (v := 30000) hx hb d_Model_makes_6 (by decide) ?_
  refine lv_icmp_le (tgt := 21) hx hb d_Model_makes_9 (by decide) (fun c_1 => ?_) (fun c_1 => ?_)
  · refine lv_aload_n hx hb d_Model_makes_21 rfl (lv_at hl 0 rfl) ?_
    refine lv_dup hx hb d_Model_makes_22 rfl ?_
    refine va_get (D := (dC, dI)) (ci := 12) (v := .int (v_i 96)) (C := R_Model) (T := F_Model) (N := 127) hx hb htt iw_Model hown hK hP 0 rfl rfl 96 (by decide) (htt _ lk_Model_556) (fun _ h9 => h9) rfl d_Model_makes_23 ?_
    refine lv_iload_n hx hb d_Model_makes_26 rfl (lv_at hl 1 rfl) ?_
    refine lv_iadd hx hb d_Model_makes_27 ?_
    refine lv_topi (fun x_2 ex_2 => ?_)
    refine va_put (D := (dC, dI)) (ci := 12) (v := .int x_2) (ty := .int) (C := R_Model) (T := F_Model) (N := 127) hx hb htt iw_Model t_Model t_Model_ok n_Model hown hK hP hD hS 0 rfl rfl 96 (by decide) (htt _ lk_Model_556) (fun _ h9 => h9) rfl (by decide +kernel) rfl rfl (Nat.le_of_ble_eq_true rfl) d_Model_makes_28 (fun H locs hP hD hS => ?_)
    have hP : va_P (dC, dI) classes [(h0, .inr (12, mo v_r (upd v_i 96 x_2) v_j))] H := hP
    have hD : va_D A [(h0, .inr (12, mo v_r (upd v_i 96 x_2) v_j))] := hD
    refine lv_iconst (v := 1) hx hb d_Model_makes_31 (by decide) ?_
    subst ex_2
    have hP9 := hP.sub (ws' := [(h0, .inr (12, mo v_r (upd v_i 96 ((v_i 96) + a)) v_j))]) [0] rfl
    have hD9 := hD.sub (ws' := [(h0, .inr (12, mo v_r (upd v_i 96 ((v_i 96) + a)) v_j))]) [0] (by decide) rfl
    have eW : [(h0, .inr (12, mo v_r (upd v_i 96 ((v_i 96) + a)) v_j))] = ([(h0, .inr (12, mo v_r (m_Model_makes_w0_i v_i a) v_j))] : va_W) := by unfold m_Model_makes_w0_i; simp only [if_pos c_1]
    rw [eW] at hP9 hD9
    exact W.zret (v := 1) hx hb hr (by decide) (fun t9 ht hW => ⟨⟨1, (), rfl, by unfold m_Model_makes_r; simp only [if_pos c_1], by rw [ht]; exact hP9, va_K.moved hW.alike hK, hD9⟩, hS.F ht⟩) hS.2.2 d_Model_makes_32
  · refine lv_aload_n hx hb d_Model_makes_12 rfl (lv_at hl 0 rfl) ?_
    refine lv_bipush (v := 8) hx hb d_Model_makes_13 (by decide) ?_
    have hPc := hP.sub (ws' := [(h0, .inr (12, mo v_r v_i v_j))]) [0] rfl
    have hDc := hD.sub (ws' := [(h0, .inr (12, mo v_r v_i v_j))]) [0] (by decide) rfl
    have hKc := hK.sub (tys' := [(cI, .int), (cJ, .long), (cB, .byte)]) [0, 1, 2] rfl
    have hFc := va_free (wc := [(h0, .inr (12, mo v_r v_i v_j))]) hD hS hA [0] rfl
    refine va_calll (va_runV (As := [.int 8]) (rest := []) ⟨hx, hb, hml, hown, hts⟩ (c_Model_fails l dC dI s.heap.size h0 v_r v_i v_j cI cJ cB 8) (cwV 1 hts (tw_GV tw_cons cw_Model_fails lk_Model_596 in_Model_fails sel_Model_fails ini_Model) rfl rfl rfl (by decide +kernel) ⟨Nat.le_of_ble_eq_true rfl, Nat.le_of_ble_eq_true rfl⟩) ⟨fun a U g mk q => by obtain ⟨q0, q1, qP, qK, qD⟩ := q; exact ⟨q0, q1, qP, va_K.moved (u := U) (U := U.calling g mk a) (Vm.Alike.refl U.vm) qK, qD⟩, va_recv hKc hPc (ci := 12) (q0 := 0) rfl rfl, fun U hU hW => ⟨rfl, by rw [hU], by rw [hU]; exact hPc, va_K.moved hW.alike hKc, hDc.weaken (fun _ _ _ _ => trivial)⟩⟩ rfl rfl hl.1 rfl (lv_room (Nat.le_of_ble_eq_true rfl)) d_Model_makes_15 ⟨Nat.le_of_ble_eq_true rfl, Nat.le_of_ble_eq_true rfl⟩) hS (fun q _ h => hFc q h) hFc (fun r9 u9 t9 H1 locs ht hvm e9 hB hz1 hk1 hS => ?_)
    obtain ⟨hP1, hK1, hD1⟩ := hB
    rw [ht] at hP1
    obtain ⟨hP, hD⟩ := va_join (wr := []) (w1 := [(h0, .inr (12, mo v_r (m_Model_fails_w0_i v_i 8) v_j))]) hP hD [0] [] rfl rfl (by decide) (by decide) hk1 hFc hP1 hD1
    subst e9
    clear hP1 hD1 hK1 hvm hz1 hk1 hFc hKc hDc hPc
    subst ht
    generalize t9.heap = H at hP hS ⊢
    have hP : va_P (dC, dI) classes [(h0, .inr (12, mo v_r (m_Model_fails_w0_i v_i 8) v_j))] H := hP
    have hD : va_D A [(h0, .inr (12, mo v_r (m_Model_fails_w0_i v_i 8) v_j))] := hD
    refine lv_pop2_2 hx hb d_Model_makes_18 rfl ?_
    refine lv_iconst (v := 0) hx hb d_Model_makes_19 (by decide) ?_
    have hP9 := hP.sub (ws' := [(h0, .inr (12, mo v_r (m_Model_fails_w0_i v_i 8) v_j))]) [0] rfl
    have hD9 := hD.sub (ws' := [(h0, .inr (12, mo v_r (m_Model_fails_w0_i v_i 8) v_j))]) [0] (by decide) rfl
    have eW : [(h0, .inr (12, mo v_r (m_Model_fails_w0_i v_i 8) v_j))] = ([(h0, .inr (12, mo v_r (m_Model_makes_w0_i v_i a) v_j))] : va_W) := by unfold m_Model_makes_w0_i; simp only [if_neg c_1]
    rw [eW] at hP9 hD9
    exact W.zret (v := 0) hx hb hr (by decide) (fun t9 ht hW => ⟨⟨0, (), rfl, by unfold m_Model_makes_r; simp only [if_neg c_1], by rw [ht]; exact hP9, va_K.moved hW.alike hK, hD9⟩, hS.F ht⟩) hS.2.2 d_Model_makes_20

def m_Model_hasLevel_r (v_i : Nat → Int32) : Int32 := if ((v_i 97)) = ((150 : Int32)) then 0 else 1
theorem m_Model_hasLevel_z {v_i : Nat → Int32} : narrow .boolean (.int (m_Model_hasLevel_r v_i)) = .int (m_Model_hasLevel_r v_i) := by
  unfold m_Model_hasLevel_r
  repeat' split
  all_goals first | rfl | rfl | decide
def m_Model_hasLevel_w0_i (v_i : Nat → Int32) : Nat → Int32 := if ((v_i 97)) = ((150 : Int32)) then m_Model_fails_w0_i v_i 6 else v_i
set_option maxHeartbeats 4000000 in
set_option maxRecDepth 100000 in
theorem c_Model_hasLevel (l : Launch) (dC : Nat → ClassId) (dI : Nat → Nat → Nat) (sz : Nat) (h0 : Nat) (v_r : Nat → Nat) (v_i : Nat → Int32) (v_j : Nat → Int64) (cI : ClassId) (cJ : ClassId) (cB : ClassId)  : Met l y_Model_hasLevel w_Model_hasLevel ({ frames := 1, cells := 0, slots := 0, locals := 21 }) (va_Pc [.ref h0] (fun U => U.heap.size = sz ∧ va_P (dC, dI) classes [(h0, .inr (12, mo v_r v_i v_j))] U.heap ∧ va_K (dC, dI) classes [(cI, .int), (cJ, .long), (cB, .byte)] U ∧ va_D (fun _ => True) [(h0, .inr (12, mo v_r v_i v_j))])) (va_Qi (fun (r : Int32) (_ : Unit) => r = m_Model_hasLevel_r v_i) (fun (_ : Unit) t => va_P (dC, dI) classes [(h0, .inr (12, mo v_r (m_Model_hasLevel_w0_i v_i) v_j))] t.heap ∧ va_K (dC, dI) classes [(cI, .int), (cJ, .long), (cB, .byte)] t ∧ va_D (va_A [(h0, .inr (12, mo v_r v_i v_j))] sz) [(h0, .inr (12, mo v_r (m_Model_hasLevel_w0_i v_i) v_j))]) (va_A [(h0, .inr (12, mo v_r v_i v_j))] sz)) 0 0 (va_A [(h0, .inr (12, mo v_r v_i v_j))] sz) := by
  refine Met.ofW (cc := b_Model_hasLevel) (maxL := 1) (ret := (some .boolean)) (by decide) rfl ?_
  intro p e s m args below meth c s₁ B hml hv
  obtain ⟨rfl, hsz, hP, hK, hD0⟩ := hv
  have hx := B.exec
  have hb := B.bytes
  have hr := B.returns
  have hts := atoms_spec (ws := w_Model_hasLevel) B.pre
  have htt : ∀ w ∈ tw_T, w.before _ s = true := fun w h => hts w (List.mem_cons_of_mem _ h)
  have hown : s.vm.findClass R_Model = some m.cls := findClass_of_methodNamed B.named
  have hlocks := B.notSynchronized
  subst hsz
  have hD := hD0.self (sz := s.heap.size)
  generalize hAe : va_A [(h0, .inr (12, mo v_r v_i v_j))] s.heap.size = A at hD ⊢
  have hA : ∀ q : Nat, s.heap.size ≤ q → A q := fun q h => by rw [← hAe]; exact Or.inr h
  have hS : va_S A s.heap s.heap [] := va_S.rf
  have hP : va_P (dC, dI) classes [(h0, .inr (12, mo v_r v_i v_j))] s.heap := hP
  have hl := lv_entry ([.ref h0]) (n := 1) (Nat.le_of_ble_eq_true rfl)
  rw [lg_entry_eq]
  generalize (lg_sl ([.ref h0]) ++ List.replicate (1 - (lg_sl ([.ref h0])).length) Slot.unset).toArray = ls at hl ⊢
  have hl : lv_has ls 1 [(0, .ref h0)] := hl
  refine lv_aload_n hx hb d_Model_hasLevel_0 rfl (lv_at hl 0 rfl) ?_
  refine va_get (D := (dC, dI)) (ci := 12) (v := .int (v_i 97)) (C := R_Model) (T := F_Model) (N := 127) hx hb htt iw_Model hown hK hP 0 rfl rfl 97 (by decide) (htt _ lk_Model_532) (fun _ h9 => h9) rfl d_Model_hasLevel_1 ?_
  refine lv_sipush (v := 150) hx hb d_Model_hasLevel_4 (by decide) ?_
  refine lv_icmp_ne (tgt := 19) hx hb d_Model_hasLevel_7 (by decide) (fun c_1 => ?_) (fun c_1 => ?_)
  · refine lv_iconst (v := 1) hx hb d_Model_hasLevel_19 (by decide) ?_
    have hP9 := hP.sub (ws' := [(h0, .inr (12, mo v_r v_i v_j))]) [0] rfl
    have hD9 := hD.sub (ws' := [(h0, .inr (12, mo v_r v_i v_j))]) [0] (by decide) rfl
    have eW : [(h0, .inr (12, mo v_r v_i v_j))] = ([(h0, .inr (12, mo v_r (m_Model_hasLevel_w0_i v_i) v_j))] : va_W) := by unfold m_Model_hasLevel_w0_i; simp only [if_neg c_1]
    rw [eW] at hP9 hD9
    exact W.zret (v := 1) hx hb hr (by decide) (fun t9 ht hW => ⟨⟨1, (), rfl, by unfold m_Model_hasLevel_r; simp only [if_neg c_1], by rw [ht]; exact hP9, va_K.moved hW.alike hK, hD9⟩, hS.F ht⟩) hS.2.2 d_Model_hasLevel_20
  · refine lv_aload_n hx hb d_Model_hasLevel_10 rfl (lv_at hl 0 rfl) ?_
    refine lv_bipush (v := 6) hx hb d_Model_hasLevel_11 (by decide) ?_
    have hPc := hP.sub (ws' := [(h0, .inr (12, mo v_r v_i v_j))]) [0] rfl
    have hDc := hD.sub (ws' := [(h0, .inr (12, mo v_r v_i v_j))]) [0] (by decide) rfl
    have hKc := hK.sub (tys' := [(cI, .int), (cJ, .long), (cB, .byte)]) [0, 1, 2] rfl
    have hFc := va_free (wc := [(h0, .inr (12, mo v_r v_i v_j))]) hD hS hA [0] rfl
    refine va_calll (va_runV (As := [.int 6]) (rest := []) ⟨hx, hb, hml, hown, hts⟩ (c_Model_fails l dC dI s.heap.size h0 v_r v_i v_j cI cJ cB 6) (cwV 1 hts (tw_GV tw_cons cw_Model_fails lk_Model_596 in_Model_fails sel_Model_fails ini_Model) rfl rfl rfl (by decide +kernel) ⟨Nat.le_of_ble_eq_true rfl, Nat.le_of_ble_eq_true rfl⟩) ⟨fun a U g mk q => by obtain ⟨q0, q1, qP, qK, qD⟩ := q; exact ⟨q0, q1, qP, va_K.moved (u := U) (U := U.calling g mk a) (Vm.Alike.refl U.vm) qK, qD⟩, va_recv hKc hPc (ci := 12) (q0 := 0) rfl rfl, fun U hU hW => ⟨rfl, by rw [hU], by rw [hU]; exact hPc, va_K.moved hW.alike hKc, hDc.weaken (fun _ _ _ _ => trivial)⟩⟩ rfl rfl hl.1 rfl (lv_room (Nat.le_of_ble_eq_true rfl)) d_Model_hasLevel_13 ⟨Nat.le_of_ble_eq_true rfl, Nat.le_of_ble_eq_true rfl⟩) hS (fun q _ h => hFc q h) hFc (fun r9 u9 t9 H1 locs ht hvm e9 hB hz1 hk1 hS => ?_)
    obtain ⟨hP1, hK1, hD1⟩ := hB
    rw [ht] at hP1
    obtain ⟨hP, hD⟩ := va_join (wr := []) (w1 := [(h0, .inr (12, mo v_r (m_Model_fails_w0_i v_i 6) v_j))]) hP hD [0] [] rfl rfl (by decide) (by decide) hk1 hFc hP1 hD1
    subst e9
    clear hP1 hD1 hK1 hvm hz1 hk1 hFc hKc hDc hPc
    subst ht
    generalize t9.heap = H at hP hS ⊢
    have hP : va_P (dC, dI) classes [(h0, .inr (12, mo v_r (m_Model_fails_w0_i v_i 6) v_j))] H := hP
    have hD : va_D A [(h0, .inr (12, mo v_r (m_Model_fails_w0_i v_i 6) v_j))] := hD
    refine lv_pop2_2 hx hb d_Model_hasLevel_16 rfl ?_
    refine lv_iconst (v := 0) hx hb d_Model_hasLevel_17 (by decide) ?_
    have hP9 := hP.sub (ws' := [(h0, .inr (12, mo v_r (m_Model_fails_w0_i v_i 6) v_j))]) [0] rfl
    have hD9 := hD.sub (ws' := [(h0, .inr (12, mo v_r (m_Model_fails_w0_i v_i 6) v_j))]) [0] (by decide) rfl
    have eW : [(h0, .inr (12, mo v_r (m_Model_fails_w0_i v_i 6) v_j))] = ([(h0, .inr (12, mo v_r (m_Model_hasLevel_w0_i v_i) v_j))] : va_W) := by unfold m_Model_hasLevel_w0_i; simp only [if_pos c_1]
    rw [eW] at hP9 hD9
    exact W.zret (v := 0) hx hb hr (by decide) (fun t9 ht hW => ⟨⟨0, (), rfl, by unfold m_Model_hasLevel_r; simp only [if_pos c_1], by rw [ht]; exact hP9, va_K.moved hW.alike hK, hD9⟩, hS.F ht⟩) hS.2.2 d_Model_hasLevel_18

def m_Model_begins_r (v_i : Nat → Int32) (v_j : Nat → Int64) : Int32 := if ((v_i 93)) = ((20000 : Int32)) then 0 else if ((lg_cmp ((v_i 93).toInt64) (v_j 108))) < ((0 : Int32)) then 1 else 0
theorem m_Model_begins_z {v_i : Nat → Int32} {v_j : Nat → Int64} : narrow .boolean (.int (m_Model_begins_r v_i v_j)) = .int (m_Model_begins_r v_i v_j) := by
  unfold m_Model_begins_r
  repeat' split
  all_goals first | rfl | rfl | decide
def m_Model_begins_w0_i (v_i : Nat → Int32) (v_j : Nat → Int64) : Nat → Int32 := if ((v_i 93)) = ((20000 : Int32)) then upd (upd v_i 102 6) 126 13 else if ((lg_cmp ((v_i 93).toInt64) (v_j 108))) < ((0 : Int32)) then upd v_i 93 ((v_i 93) + 1) else upd v_i 102 1
set_option maxHeartbeats 4000000 in
set_option maxRecDepth 100000 in
theorem c_Model_begins (l : Launch) (dC : Nat → ClassId) (dI : Nat → Nat → Nat) (sz : Nat) (h0 : Nat) (v_r : Nat → Nat) (v_i : Nat → Int32) (v_j : Nat → Int64) (cI : ClassId) (cJ : ClassId) (cB : ClassId)  : Met l y_Model_begins w_Model_begins ({ frames := 0, cells := 0, slots := 0, locals := 0 }) (va_Pc [.ref h0] (fun U => U.heap.size = sz ∧ va_P (dC, dI) classes [(h0, .inr (12, mo v_r v_i v_j))] U.heap ∧ va_K (dC, dI) classes [(cI, .int), (cJ, .long), (cB, .byte)] U ∧ va_D (fun _ => True) [(h0, .inr (12, mo v_r v_i v_j))])) (va_Qi (fun (r : Int32) (_ : Unit) => r = m_Model_begins_r v_i v_j) (fun (_ : Unit) t => va_P (dC, dI) classes [(h0, .inr (12, mo v_r (m_Model_begins_w0_i v_i v_j) v_j))] t.heap ∧ va_K (dC, dI) classes [(cI, .int), (cJ, .long), (cB, .byte)] t ∧ va_D (va_A [(h0, .inr (12, mo v_r v_i v_j))] sz) [(h0, .inr (12, mo v_r (m_Model_begins_w0_i v_i v_j) v_j))]) (va_A [(h0, .inr (12, mo v_r v_i v_j))] sz)) 0 0 (va_A [(h0, .inr (12, mo v_r v_i v_j))] sz) := by
  refine Met.ofW (cc := b_Model_begins) (maxL := 1) (ret := (some .boolean)) (by decide) rfl ?_
  intro p e s m args below meth c s₁ B hml hv
  obtain ⟨rfl, hsz, hP, hK, hD0⟩ := hv
  have hx := B.exec
  have hb := B.bytes
  have hr := B.returns
  have hts := atoms_spec (ws := w_Model_begins) B.pre
  have htt : ∀ w ∈ tw_T, w.before _ s = true := fun w h => hts w (List.mem_cons_of_mem _ h)
  have hown : s.vm.findClass R_Model = some m.cls := findClass_of_methodNamed B.named
  have hlocks := B.notSynchronized
  subst hsz
  have hD := hD0.self (sz := s.heap.size)
  generalize hAe : va_A [(h0, .inr (12, mo v_r v_i v_j))] s.heap.size = A at hD ⊢
  have hA : ∀ q : Nat, s.heap.size ≤ q → A q := fun q h => by rw [← hAe]; exact Or.inr h
  have hS : va_S A s.heap s.heap [] := va_S.rf
  have hP : va_P (dC, dI) classes [(h0, .inr (12, mo v_r v_i v_j))] s.heap := hP
  have hl := lv_entry ([.ref h0]) (n := 1) (Nat.le_of_ble_eq_true rfl)
  rw [lg_entry_eq]
  generalize (lg_sl ([.ref h0]) ++ List.replicate (1 - (lg_sl ([.ref h0])).length) Slot.unset).toArray = ls at hl ⊢
  have hl : lv_has ls 1 [(0, .ref h0)] := hl
  refine lv_aload_n hx hb d_Model_begins_0 rfl (lv_at hl 0 rfl) ?_
  refine va_get (D := (dC, dI)) (ci := 12) (v := .int (v_i 93)) (C := R_Model) (T := F_Model) (N := 127) hx hb htt iw_Model hown hK hP 0 rfl rfl 93 (by decide) (htt _ lk_Model_523) (fun _ h9 => h9) rfl d_Model_begins_1 ?_
  refine lv_sipush (v := 20000) hx hb d_Model_begins_4 (by decide) ?_
  refine lv_icmp_ne (tgt := 24) hx hb d_Model_begins_7 (by decide) (fun c_1 => ?_) (fun c_1 => ?_)
  · refine lv_aload_n hx hb d_Model_begins_24 rfl (lv_at hl 0 rfl) ?_
    refine va_get (D := (dC, dI)) (ci := 12) (v := .int (v_i 93)) (C := R_Model) (T := F_Model) (N := 127) hx hb htt iw_Model hown hK hP 0 rfl rfl 93 (by decide) (htt _ lk_Model_523) (fun _ h9 => h9) rfl d_Model_begins_25 ?_
    refine lv_i2l hx hb d_Model_begins_28 rfl ?_
    refine lv_aload_n hx hb d_Model_begins_29 rfl (lv_at hl 0 rfl) ?_
    refine va_get (D := (dC, dI)) (ci := 12) (v := .long (v_j 108)) (C := R_Model) (T := F_Model) (N := 127) hx hb htt iw_Model hown hK hP 0 rfl rfl 108 (by decide) (htt _ lk_Model_547) (fun _ h9 => h9) rfl d_Model_begins_30 ?_
    refine W.lcmp hx hb d_Model_begins_33 ?_
    refine lv_if_lt (tgt := 44) hx hb d_Model_begins_34 (by decide) (fun c_2 => ?_) (fun c_2 => ?_)
    · refine lv_aload_n hx hb d_Model_begins_44 rfl (lv_at hl 0 rfl) ?_
      refine lv_dup hx hb d_Model_begins_45 rfl ?_
      refine va_get (D := (dC, dI)) (ci := 12) (v := .int (v_i 93)) (C := R_Model) (T := F_Model) (N := 127) hx hb htt iw_Model hown hK hP 0 rfl rfl 93 (by decide) (htt _ lk_Model_523) (fun _ h9 => h9) rfl d_Model_begins_46 ?_
      refine lv_iconst (v := 1) hx hb d_Model_begins_49 (by decide) ?_
      refine lv_iadd hx hb d_Model_begins_50 ?_
      refine lv_topi (fun x_3 ex_3 => ?_)
      refine va_put (D := (dC, dI)) (ci := 12) (v := .int x_3) (ty := .int) (C := R_Model) (T := F_Model) (N := 127) hx hb htt iw_Model t_Model t_Model_ok n_Model hown hK hP hD hS 0 rfl rfl 93 (by decide) (htt _ lk_Model_523) (fun _ h9 => h9) rfl (by decide +kernel) rfl rfl (Nat.le_of_ble_eq_true rfl) d_Model_begins_51 (fun H locs hP hD hS => ?_)
      have hP : va_P (dC, dI) classes [(h0, .inr (12, mo v_r (upd v_i 93 x_3) v_j))] H := hP
      have hD : va_D A [(h0, .inr (12, mo v_r (upd v_i 93 x_3) v_j))] := hD
      refine lv_iconst (v := 1) hx hb d_Model_begins_54 (by decide) ?_
      subst ex_3
      have hP9 := hP.sub (ws' := [(h0, .inr (12, mo v_r (upd v_i 93 ((v_i 93) + 1)) v_j))]) [0] rfl
      have hD9 := hD.sub (ws' := [(h0, .inr (12, mo v_r (upd v_i 93 ((v_i 93) + 1)) v_j))]) [0] (by decide) rfl
      have eW : [(h0, .inr (12, mo v_r (upd v_i 93 ((v_i 93) + 1)) v_j))] = ([(h0, .inr (12, mo v_r (m_Model_begins_w0_i v_i v_j) v_j))] : va_W) := by unfold m_Model_begins_w0_i; simp only [if_neg c_1, if_pos c_2]
      rw [eW] at hP9 hD9
      exact W.zret (v := 1) hx hb hr (by decide) (fun t9 ht hW => ⟨⟨1, (), rfl, by unfold m_Model_begins_r; simp only [if_neg c_1, if_pos c_2], by rw [ht]; exact hP9, va_K.moved hW.alike hK, hD9⟩, hS.F ht⟩) hS.2.2 d_Model_begins_55
    · refine lv_aload_n hx hb d_Model_begins_37 rfl (lv_at hl 0 rfl) ?_
      refine lv_iconst (v := 1) hx hb d_Model_begins_38 (by decide) ?_
      refine va_put (D := (dC, dI)) (ci := 12) (v := .int 1) (ty := .int) (C := R_Model) (T := F_Model) (N := 127) hx hb htt iw_Model t_Model t_Model_ok n_Model hown hK hP hD hS 0 rfl rfl 102 (by decide) (htt _ lk_Model_559) (fun _ h9 => h9) rfl (by decide +kernel) rfl rfl (Nat.le_of_ble_eq_true rfl) d_Model_begins_39 (fun H locs hP hD hS => ?_)
      have hP : va_P (dC, dI) classes [(h0, .inr (12, mo v_r (upd v_i 102 1) v_j))] H := hP
      have hD : va_D A [(h0, .inr (12, mo v_r (upd v_i 102 1) v_j))] := hD
      refine lv_iconst (v := 0) hx hb d_Model_begins_42 (by decide) ?_
      have hP9 := hP.sub (ws' := [(h0, .inr (12, mo v_r (upd v_i 102 1) v_j))]) [0] rfl
      have hD9 := hD.sub (ws' := [(h0, .inr (12, mo v_r (upd v_i 102 1) v_j))]) [0] (by decide) rfl
      have eW : [(h0, .inr (12, mo v_r (upd v_i 102 1) v_j))] = ([(h0, .inr (12, mo v_r (m_Model_begins_w0_i v_i v_j) v_j))] : va_W) := by unfold m_Model_begins_w0_i; simp only [if_neg c_1, if_neg c_2]
      rw [eW] at hP9 hD9
      exact W.zret (v := 0) hx hb hr (by decide) (fun t9 ht hW => ⟨⟨0, (), rfl, by unfold m_Model_begins_r; simp only [if_neg c_1, if_neg c_2], by rw [ht]; exact hP9, va_K.moved hW.alike hK, hD9⟩, hS.F ht⟩) hS.2.2 d_Model_begins_43
  · refine lv_aload_n hx hb d_Model_begins_10 rfl (lv_at hl 0 rfl) ?_
    refine lv_bipush (v := 6) hx hb d_Model_begins_11 (by decide) ?_
    refine va_put (D := (dC, dI)) (ci := 12) (v := .int 6) (ty := .int) (C := R_Model) (T := F_Model) (N := 127) hx hb htt iw_Model t_Model t_Model_ok n_Model hown hK hP hD hS 0 rfl rfl 102 (by decide) (htt _ lk_Model_559) (fun _ h9 => h9) rfl (by decide +kernel) rfl rfl (Nat.le_of_ble_eq_true rfl) d_Model_begins_13 (fun H locs hP hD hS => ?_)
    have hP : va_P (dC, dI) classes [(h0, .inr (12, mo v_r (upd v_i 102 6) v_j))] H := hP
    have hD : va_D A [(h0, .inr (12, mo v_r (upd v_i 102 6) v_j))] := hD
    refine lv_aload_n hx hb d_Model_begins_16 rfl (lv_at hl 0 rfl) ?_
    refine lv_bipush (v := 13) hx hb d_Model_begins_17 (by decide) ?_
    refine va_put (D := (dC, dI)) (ci := 12) (v := .int 13) (ty := .int) (C := R_Model) (T := F_Model) (N := 127) hx hb htt iw_Model t_Model t_Model_ok n_Model hown hK hP hD hS 0 rfl rfl 126 (by decide) (htt _ lk_Model_599) (fun _ h9 => h9) rfl (by decide +kernel) rfl rfl (Nat.le_of_ble_eq_true rfl) d_Model_begins_19 (fun H locs hP hD hS => ?_)
    have hP : va_P (dC, dI) classes [(h0, .inr (12, mo v_r (upd (upd v_i 102 6) 126 13) v_j))] H := hP
    have hD : va_D A [(h0, .inr (12, mo v_r (upd (upd v_i 102 6) 126 13) v_j))] := hD
    refine lv_iconst (v := 0) hx hb d_Model_begins_22 (by decide) ?_
    have hP9 := hP.sub (ws' := [(h0, .inr (12, mo v_r (upd (upd v_i 102 6) 126 13) v_j))]) [0] rfl
    have hD9 := hD.sub (ws' := [(h0, .inr (12, mo v_r (upd (upd v_i 102 6) 126 13) v_j))]) [0] (by decide) rfl
    have eW : [(h0, .inr (12, mo v_r (upd (upd v_i 102 6) 126 13) v_j))] = ([(h0, .inr (12, mo v_r (m_Model_begins_w0_i v_i v_j) v_j))] : va_W) := by unfold m_Model_begins_w0_i; simp only [if_pos c_1]
    rw [eW] at hP9 hD9
    exact W.zret (v := 0) hx hb hr (by decide) (fun t9 ht hW => ⟨⟨0, (), rfl, by unfold m_Model_begins_r; simp only [if_pos c_1], by rw [ht]; exact hP9, va_K.moved hW.alike hK, hD9⟩, hS.F ht⟩) hS.2.2 d_Model_begins_23

def m_Model_fail_w0_i (v_i : Nat → Int32) (a : Int32) (b : Int32) : Nat → Int32 := if ((v_i 75)) = ((0 : Int32)) then upd (upd v_i 75 a) 76 b else v_i
set_option maxHeartbeats 4000000 in
set_option maxRecDepth 100000 in
theorem c_Model_fail (l : Launch) (dC : Nat → ClassId) (dI : Nat → Nat → Nat) (sz : Nat) (h0 : Nat) (v_r : Nat → Nat) (v_i : Nat → Int32) (v_j : Nat → Int64) (cI : ClassId) (cJ : ClassId) (cB : ClassId) (a : Int32) (b : Int32)  : Met l y_Model_fail w_Model_fail ({ frames := 0, cells := 0, slots := 0, locals := 0 }) (va_Pc [.ref h0, .int a, .int b] (fun U => U.heap.size = sz ∧ va_P (dC, dI) classes [(h0, .inr (12, mo v_r v_i v_j))] U.heap ∧ va_K (dC, dI) classes [(cI, .int), (cJ, .long), (cB, .byte)] U ∧ va_D (fun _ => True) [(h0, .inr (12, mo v_r v_i v_j))])) (va_Qv (fun (_ : Unit) => True) (fun (_ : Unit) t => va_P (dC, dI) classes [(h0, .inr (12, mo v_r (m_Model_fail_w0_i v_i a b) v_j))] t.heap ∧ va_K (dC, dI) classes [(cI, .int), (cJ, .long), (cB, .byte)] t ∧ va_D (va_A [(h0, .inr (12, mo v_r v_i v_j))] sz) [(h0, .inr (12, mo v_r (m_Model_fail_w0_i v_i a b) v_j))]) (va_A [(h0, .inr (12, mo v_r v_i v_j))] sz)) 0 0 (va_A [(h0, .inr (12, mo v_r v_i v_j))] sz) := by
  refine Met.ofW (cc := b_Model_fail) (maxL := 3) (ret := none) (by decide) rfl ?_
  intro p e s m args below meth c s₁ B hml hv
  obtain ⟨rfl, hsz, hP, hK, hD0⟩ := hv
  have hx := B.exec
  have hb := B.bytes
  have hr := B.returns
  have hts := atoms_spec (ws := w_Model_fail) B.pre
  have htt : ∀ w ∈ tw_T, w.before _ s = true := fun w h => hts w (List.mem_cons_of_mem _ h)
  have hown : s.vm.findClass R_Model = some m.cls := findClass_of_methodNamed B.named
  have hlocks := B.notSynchronized
  subst hsz
  have hD := hD0.self (sz := s.heap.size)
  generalize hAe : va_A [(h0, .inr (12, mo v_r v_i v_j))] s.heap.size = A at hD ⊢
  have hA : ∀ q : Nat, s.heap.size ≤ q → A q := fun q h => by rw [← hAe]; exact Or.inr h
  have hS : va_S A s.heap s.heap [] := va_S.rf
  have hP : va_P (dC, dI) classes [(h0, .inr (12, mo v_r v_i v_j))] s.heap := hP
  have hl := lv_entry ([.ref h0, .int a, .int b]) (n := 3) (Nat.le_of_ble_eq_true rfl)
  rw [lg_entry_eq]
  generalize (lg_sl ([.ref h0, .int a, .int b]) ++ List.replicate (3 - (lg_sl ([.ref h0, .int a, .int b])).length) Slot.unset).toArray = ls at hl ⊢
  have hl : lv_has ls 3 [(0, .ref h0), (1, .int a), (2, .int b)] := hl
  refine lv_aload_n hx hb d_Model_fail_0 rfl (lv_at hl 0 rfl) ?_
  refine va_get (D := (dC, dI)) (ci := 12) (v := .int (v_i 75)) (C := R_Model) (T := F_Model) (N := 127) hx hb htt iw_Model hown hK hP 0 rfl rfl 75 (by decide) (htt _ lk_Model_416) (fun _ h9 => h9) rfl d_Model_fail_1 ?_
  refine lv_if_ne (tgt := 17) hx hb d_Model_fail_4 (by decide) (fun c_1 => ?_) (fun c_1 => ?_)
  · have hP9 := hP.sub (ws' := [(h0, .inr (12, mo v_r v_i v_j))]) [0] rfl
    have hD9 := hD.sub (ws' := [(h0, .inr (12, mo v_r v_i v_j))]) [0] (by decide) rfl
    have eW : [(h0, .inr (12, mo v_r v_i v_j))] = ([(h0, .inr (12, mo v_r (m_Model_fail_w0_i v_i a b) v_j))] : va_W) := by unfold m_Model_fail_w0_i; simp only [if_neg c_1]
    rw [eW] at hP9 hD9
    exact W.vret hx hb hr (fun t9 ht hW => ⟨⟨(), rfl, trivial, by rw [ht]; exact hP9, va_K.moved hW.alike hK, hD9⟩, hS.F ht⟩) hS.2.2 d_Model_fail_17
  · refine lv_aload_n hx hb d_Model_fail_7 rfl (lv_at hl 0 rfl) ?_
    refine lv_iload_n hx hb d_Model_fail_8 rfl (lv_at hl 1 rfl) ?_
    refine va_put (D := (dC, dI)) (ci := 12) (v := .int a) (ty := .int) (C := R_Model) (T := F_Model) (N := 127) hx hb htt iw_Model t_Model t_Model_ok n_Model hown hK hP hD hS 0 rfl rfl 75 (by decide) (htt _ lk_Model_416) (fun _ h9 => h9) rfl (by decide +kernel) rfl rfl (Nat.le_of_ble_eq_true rfl) d_Model_fail_9 (fun H locs hP hD hS => ?_)
    have hP : va_P (dC, dI) classes [(h0, .inr (12, mo v_r (upd v_i 75 a) v_j))] H := hP
    have hD : va_D A [(h0, .inr (12, mo v_r (upd v_i 75 a) v_j))] := hD
    refine lv_aload_n hx hb d_Model_fail_12 rfl (lv_at hl 0 rfl) ?_
    refine lv_iload_n hx hb d_Model_fail_13 rfl (lv_at hl 2 rfl) ?_
    refine va_put (D := (dC, dI)) (ci := 12) (v := .int b) (ty := .int) (C := R_Model) (T := F_Model) (N := 127) hx hb htt iw_Model t_Model t_Model_ok n_Model hown hK hP hD hS 0 rfl rfl 76 (by decide) (htt _ lk_Model_264) (fun _ h9 => h9) rfl (by decide +kernel) rfl rfl (Nat.le_of_ble_eq_true rfl) d_Model_fail_14 (fun H locs hP hD hS => ?_)
    have hP : va_P (dC, dI) classes [(h0, .inr (12, mo v_r (upd (upd v_i 75 a) 76 b) v_j))] H := hP
    have hD : va_D A [(h0, .inr (12, mo v_r (upd (upd v_i 75 a) 76 b) v_j))] := hD
    have hP9 := hP.sub (ws' := [(h0, .inr (12, mo v_r (upd (upd v_i 75 a) 76 b) v_j))]) [0] rfl
    have hD9 := hD.sub (ws' := [(h0, .inr (12, mo v_r (upd (upd v_i 75 a) 76 b) v_j))]) [0] (by decide) rfl
    have eW : [(h0, .inr (12, mo v_r (upd (upd v_i 75 a) 76 b) v_j))] = ([(h0, .inr (12, mo v_r (m_Model_fail_w0_i v_i a b) v_j))] : va_W) := by unfold m_Model_fail_w0_i; simp only [if_pos c_1]
    rw [eW] at hP9 hD9
    exact W.vret hx hb hr (fun t9 ht hW => ⟨⟨(), rfl, trivial, by rw [ht]; exact hP9, va_K.moved hW.alike hK, hD9⟩, hS.F ht⟩) hS.2.2 d_Model_fail_17
