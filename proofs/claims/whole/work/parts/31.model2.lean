theorem d_Model_thrown_0 : decode b_Model_thrown 0 = .ok (.aload_n 0, 1) := by decide +kernel
theorem d_Model_thrown_1 : decode b_Model_thrown 1 = .ok (.getfield 1, 3) := by decide +kernel
theorem d_Model_thrown_4 : decode b_Model_thrown 4 = .ok (.ireturn, 1) := by decide +kernel
theorem d_Model_fault_0 : decode b_Model_fault 0 = .ok (.aload_n 0, 1) := by decide +kernel
theorem d_Model_fault_1 : decode b_Model_fault 1 = .ok (.iconst 0, 1) := by decide +kernel
theorem d_Model_fault_2 : decode b_Model_fault 2 = .ok (.putfield 1, 3) := by decide +kernel
theorem d_Model_fault_5 : decode b_Model_fault 5 = .ok (.aload_n 0, 1) := by decide +kernel
theorem d_Model_fault_6 : decode b_Model_fault 6 = .ok (.getfield 416, 3) := by decide +kernel
theorem d_Model_fault_9 : decode b_Model_fault 9 = .ok (.ifCond .ne 7, 3) := by decide +kernel
theorem d_Model_fault_12 : decode b_Model_fault 12 = .ok (.iconst (-1), 1) := by decide +kernel
theorem d_Model_fault_13 : decode b_Model_fault 13 = .ok (.goto 27, 3) := by decide +kernel
theorem d_Model_fault_16 : decode b_Model_fault 16 = .ok (.iload_n 1, 1) := by decide +kernel
theorem d_Model_fault_17 : decode b_Model_fault 17 = .ok (.ifCond .ne 10, 3) := by decide +kernel
theorem d_Model_fault_20 : decode b_Model_fault 20 = .ok (.aload_n 0, 1) := by decide +kernel
theorem d_Model_fault_21 : decode b_Model_fault 21 = .ok (.getfield 264, 3) := by decide +kernel
theorem d_Model_fault_24 : decode b_Model_fault 24 = .ok (.goto 16, 3) := by decide +kernel
theorem d_Model_fault_27 : decode b_Model_fault 27 = .ok (.iload_n 1, 1) := by decide +kernel
theorem d_Model_fault_28 : decode b_Model_fault 28 = .ok (.iconst 1, 1) := by decide +kernel
theorem d_Model_fault_29 : decode b_Model_fault 29 = .ok (.if_icmp .ne 10, 3) := by decide +kernel
theorem d_Model_fault_32 : decode b_Model_fault 32 = .ok (.aload_n 0, 1) := by decide +kernel
theorem d_Model_fault_33 : decode b_Model_fault 33 = .ok (.getfield 416, 3) := by decide +kernel
theorem d_Model_fault_36 : decode b_Model_fault 36 = .ok (.goto 4, 3) := by decide +kernel
theorem d_Model_fault_39 : decode b_Model_fault 39 = .ok (.iconst (-1), 1) := by decide +kernel
theorem d_Model_fault_40 : decode b_Model_fault 40 = .ok (.ireturn, 1) := by decide +kernel
theorem lk_Model_416 : Cond.fieldLink "TurtleWorldModel" 416 "TurtleWorldModel" "fault" "I" ∈ tw_T := tw_i8 153 (by decide +kernel) (by decide +kernel)
theorem lk_Model_264 : Cond.fieldLink "TurtleWorldModel" 264 "TurtleWorldModel" "faultPlace" "I" ∈ tw_T := tw_i8 154 (by decide +kernel) (by decide +kernel)
theorem d_Model_dotAt_0 : decode b_Model_dotAt 0 = .ok (.iload_n 1, 1) := by decide +kernel
theorem d_Model_dotAt_1 : decode b_Model_dotAt 1 = .ok (.bipush (-32), 2) := by decide +kernel
theorem d_Model_dotAt_3 : decode b_Model_dotAt 3 = .ok (.if_icmp .lt 21, 3) := by decide +kernel
theorem d_Model_dotAt_6 : decode b_Model_dotAt 6 = .ok (.iload_n 1, 1) := by decide +kernel
theorem d_Model_dotAt_7 : decode b_Model_dotAt 7 = .ok (.bipush 31, 2) := by decide +kernel
theorem d_Model_dotAt_9 : decode b_Model_dotAt 9 = .ok (.if_icmp .gt 15, 3) := by decide +kernel
theorem d_Model_dotAt_12 : decode b_Model_dotAt 12 = .ok (.iload_n 2, 1) := by decide +kernel
theorem d_Model_dotAt_13 : decode b_Model_dotAt 13 = .ok (.bipush (-32), 2) := by decide +kernel
theorem d_Model_dotAt_15 : decode b_Model_dotAt 15 = .ok (.if_icmp .lt 9, 3) := by decide +kernel
theorem d_Model_dotAt_18 : decode b_Model_dotAt 18 = .ok (.iload_n 2, 1) := by decide +kernel
theorem d_Model_dotAt_19 : decode b_Model_dotAt 19 = .ok (.bipush 31, 2) := by decide +kernel
theorem d_Model_dotAt_21 : decode b_Model_dotAt 21 = .ok (.if_icmp .le 7, 3) := by decide +kernel
theorem d_Model_dotAt_24 : decode b_Model_dotAt 24 = .ok (.iconst (-1), 1) := by decide +kernel
theorem d_Model_dotAt_25 : decode b_Model_dotAt 25 = .ok (.goto 20, 3) := by decide +kernel
theorem d_Model_dotAt_28 : decode b_Model_dotAt 28 = .ok (.aload_n 0, 1) := by decide +kernel
theorem d_Model_dotAt_29 : decode b_Model_dotAt 29 = .ok (.getfield 222, 3) := by decide +kernel
theorem d_Model_dotAt_32 : decode b_Model_dotAt 32 = .ok (.bipush 64, 2) := by decide +kernel
theorem d_Model_dotAt_34 : decode b_Model_dotAt 34 = .ok (.iload_n 2, 1) := by decide +kernel
theorem d_Model_dotAt_35 : decode b_Model_dotAt 35 = .ok (.bipush 32, 2) := by decide +kernel
theorem d_Model_dotAt_37 : decode b_Model_dotAt 37 = .ok (.iadd, 1) := by decide +kernel
theorem d_Model_dotAt_38 : decode b_Model_dotAt 38 = .ok (.imul, 1) := by decide +kernel
theorem d_Model_dotAt_39 : decode b_Model_dotAt 39 = .ok (.iload_n 1, 1) := by decide +kernel
theorem d_Model_dotAt_40 : decode b_Model_dotAt 40 = .ok (.iadd, 1) := by decide +kernel
theorem d_Model_dotAt_41 : decode b_Model_dotAt 41 = .ok (.bipush 32, 2) := by decide +kernel
theorem d_Model_dotAt_43 : decode b_Model_dotAt 43 = .ok (.iadd, 1) := by decide +kernel
theorem d_Model_dotAt_44 : decode b_Model_dotAt 44 = .ok (.iaload, 1) := by decide +kernel
theorem d_Model_dotAt_45 : decode b_Model_dotAt 45 = .ok (.ireturn, 1) := by decide +kernel
theorem lk_Model_222 : Cond.fieldLink "TurtleWorldModel" 222 "TurtleWorldModel" "dots" "[I" ∈ tw_T := tw_i8 122 (by decide +kernel) (by decide +kernel)
theorem d_Model_dot_0 : decode b_Model_dot 0 = .ok (.aload_n 0, 1) := by decide +kernel
theorem d_Model_dot_1 : decode b_Model_dot 1 = .ok (.iconst 0, 1) := by decide +kernel
theorem d_Model_dot_2 : decode b_Model_dot 2 = .ok (.putfield 1, 3) := by decide +kernel
theorem d_Model_dot_5 : decode b_Model_dot 5 = .ok (.aload_n 0, 1) := by decide +kernel
theorem d_Model_dot_6 : decode b_Model_dot 6 = .ok (.iload_n 1, 1) := by decide +kernel
theorem d_Model_dot_7 : decode b_Model_dot 7 = .ok (.iload_n 2, 1) := by decide +kernel
theorem d_Model_dot_8 : decode b_Model_dot 8 = .ok (.invokevirtual 827, 3) := by decide +kernel
theorem d_Model_dot_11 : decode b_Model_dot 11 = .ok (.ireturn, 1) := by decide +kernel
theorem lk_Model_827 : Cond.methodLink "TurtleWorldModel" 827 ⟨"TurtleWorldModel", "dotAt", "(II)I"⟩ ∈ tw_T := tw_i11 49 (by decide +kernel) (by decide +kernel)
theorem in_Model_dotAt : Cond.instanceMethod ⟨"TurtleWorldModel", "dotAt", "(II)I"⟩ ∈ tw_T := tw_i11 51 (by decide +kernel) (by decide +kernel)
theorem sel_Model_dotAt : Cond.selects "TurtleWorldModel" ⟨"TurtleWorldModel", "dotAt", "(II)I"⟩ ⟨"TurtleWorldModel", "dotAt", "(II)I"⟩ ∈ tw_T := tw_inS 136 (by decide +kernel) (by decide +kernel)
theorem d_Model_ended_0 : decode b_Model_ended 0 = .ok (.aload_n 0, 1) := by decide +kernel
theorem d_Model_ended_1 : decode b_Model_ended 1 = .ok (.iconst 0, 1) := by decide +kernel
theorem d_Model_ended_2 : decode b_Model_ended 2 = .ok (.putfield 532, 3) := by decide +kernel
theorem d_Model_ended_5 : decode b_Model_ended 5 = .ok (.aload_n 0, 1) := by decide +kernel
theorem d_Model_ended_6 : decode b_Model_ended 6 = .ok (.iconst 0, 1) := by decide +kernel
theorem d_Model_ended_7 : decode b_Model_ended 7 = .ok (.putfield 535, 3) := by decide +kernel
theorem d_Model_ended_10 : decode b_Model_ended 10 = .ok (.aload_n 0, 1) := by decide +kernel
theorem d_Model_ended_11 : decode b_Model_ended 11 = .ok (.iconst 0, 1) := by decide +kernel
theorem d_Model_ended_12 : decode b_Model_ended 12 = .ok (.putfield 538, 3) := by decide +kernel
theorem d_Model_ended_15 : decode b_Model_ended 15 = .ok (.aload_n 0, 1) := by decide +kernel
theorem d_Model_ended_16 : decode b_Model_ended 16 = .ok (.getfield 541, 3) := by decide +kernel
theorem d_Model_ended_19 : decode b_Model_ended 19 = .ok (.ifCond .le 11, 3) := by decide +kernel
theorem d_Model_ended_22 : decode b_Model_ended 22 = .ok (.aload_n 0, 1) := by decide +kernel
theorem d_Model_ended_23 : decode b_Model_ended 23 = .ok (.aload_n 0, 1) := by decide +kernel
theorem d_Model_ended_24 : decode b_Model_ended 24 = .ok (.getfield 544, 3) := by decide +kernel
theorem d_Model_ended_27 : decode b_Model_ended 27 = .ok (.putfield 366, 3) := by decide +kernel
theorem d_Model_ended_30 : decode b_Model_ended 30 = .ok (.aload_n 0, 1) := by decide +kernel
theorem d_Model_ended_31 : decode b_Model_ended 31 = .ok (.iconst 0, 1) := by decide +kernel
theorem d_Model_ended_32 : decode b_Model_ended 32 = .ok (.putfield 541, 3) := by decide +kernel
theorem d_Model_ended_35 : decode b_Model_ended 35 = .ok (.return_, 1) := by decide +kernel
theorem lk_Model_532 : Cond.fieldLink "TurtleWorldModel" 532 "TurtleWorldModel" "levels" "I" ∈ tw_T := tw_i8 175 (by decide +kernel) (by decide +kernel)
theorem lk_Model_535 : Cond.fieldLink "TurtleWorldModel" 535 "TurtleWorldModel" "waiting" "I" ∈ tw_T := tw_i8 176 (by decide +kernel) (by decide +kernel)
theorem lk_Model_538 : Cond.fieldLink "TurtleWorldModel" 538 "TurtleWorldModel" "calls" "I" ∈ tw_T := tw_i8 177 (by decide +kernel) (by decide +kernel)
theorem lk_Model_541 : Cond.fieldLink "TurtleWorldModel" 541 "TurtleWorldModel" "asks" "I" ∈ tw_T := tw_i8 181 (by decide +kernel) (by decide +kernel)
theorem lk_Model_544 : Cond.fieldLink "TurtleWorldModel" 544 "TurtleWorldModel" "toldAhead" "I" ∈ tw_T := tw_i8 182 (by decide +kernel) (by decide +kernel)
theorem lk_Model_366 : Cond.fieldLink "TurtleWorldModel" 366 "TurtleWorldModel" "told" "I" ∈ tw_T := tw_i8 125 (by decide +kernel) (by decide +kernel)
theorem d_Model_stop_0 : decode b_Model_stop 0 = .ok (.aload_n 0, 1) := by decide +kernel
theorem d_Model_stop_1 : decode b_Model_stop 1 = .ok (.iconst 0, 1) := by decide +kernel
theorem d_Model_stop_2 : decode b_Model_stop 2 = .ok (.putfield 1, 3) := by decide +kernel
theorem d_Model_stop_5 : decode b_Model_stop 5 = .ok (.aload_n 0, 1) := by decide +kernel
theorem d_Model_stop_6 : decode b_Model_stop 6 = .ok (.getfield 494, 3) := by decide +kernel
theorem d_Model_stop_9 : decode b_Model_stop 9 = .ok (.iconst 1, 1) := by decide +kernel
theorem d_Model_stop_10 : decode b_Model_stop 10 = .ok (.if_icmp .eq 5, 3) := by decide +kernel
theorem d_Model_stop_13 : decode b_Model_stop 13 = .ok (.iconst 0, 1) := by decide +kernel
theorem d_Model_stop_14 : decode b_Model_stop 14 = .ok (.ireturn, 1) := by decide +kernel
theorem d_Model_stop_15 : decode b_Model_stop 15 = .ok (.aload_n 0, 1) := by decide +kernel
theorem d_Model_stop_16 : decode b_Model_stop 16 = .ok (.iconst 4, 1) := by decide +kernel
theorem d_Model_stop_17 : decode b_Model_stop 17 = .ok (.putfield 494, 3) := by decide +kernel
theorem d_Model_stop_20 : decode b_Model_stop 20 = .ok (.aload_n 0, 1) := by decide +kernel
theorem d_Model_stop_21 : decode b_Model_stop 21 = .ok (.invokevirtual 529, 3) := by decide +kernel
theorem d_Model_stop_24 : decode b_Model_stop 24 = .ok (.iconst 1, 1) := by decide +kernel
theorem d_Model_stop_25 : decode b_Model_stop 25 = .ok (.ireturn, 1) := by decide +kernel
theorem lk_Model_494 : Cond.fieldLink "TurtleWorldModel" 494 "TurtleWorldModel" "status" "I" ∈ tw_T := tw_i8 170 (by decide +kernel) (by decide +kernel)
theorem lk_Model_529 : Cond.methodLink "TurtleWorldModel" 529 ⟨"TurtleWorldModel", "ended", "()V"⟩ ∈ tw_T := tw_i11 176 (by decide +kernel) (by decide +kernel)
theorem in_Model_ended : Cond.instanceMethod ⟨"TurtleWorldModel", "ended", "()V"⟩ ∈ tw_T := tw_i11 178 (by decide +kernel) (by decide +kernel)
theorem sel_Model_ended : Cond.selects "TurtleWorldModel" ⟨"TurtleWorldModel", "ended", "()V"⟩ ⟨"TurtleWorldModel", "ended", "()V"⟩ ∈ tw_T := tw_inS 166 (by decide +kernel) (by decide +kernel)
theorem d_Model_fails_0 : decode b_Model_fails 0 = .ok (.aload_n 0, 1) := by decide +kernel
theorem d_Model_fails_1 : decode b_Model_fails 1 = .ok (.iconst 2, 1) := by decide +kernel
theorem d_Model_fails_2 : decode b_Model_fails 2 = .ok (.putfield 559, 3) := by decide +kernel
theorem d_Model_fails_5 : decode b_Model_fails 5 = .ok (.aload_n 0, 1) := by decide +kernel
theorem d_Model_fails_6 : decode b_Model_fails 6 = .ok (.iload_n 1, 1) := by decide +kernel
theorem d_Model_fails_7 : decode b_Model_fails 7 = .ok (.putfield 599, 3) := by decide +kernel
theorem d_Model_fails_10 : decode b_Model_fails 10 = .ok (.ldc2_w 7, 3) := by decide +kernel
theorem d_Model_fails_13 : decode b_Model_fails 13 = .ok (.lreturn, 1) := by decide +kernel
theorem lk_Model_559 : Cond.fieldLink "TurtleWorldModel" 559 "TurtleWorldModel" "leaves" "I" ∈ tw_T := tw_i8 180 (by decide +kernel) (by decide +kernel)
theorem lk_Model_599 : Cond.fieldLink "TurtleWorldModel" 599 "TurtleWorldModel" "errorNow" "I" ∈ tw_T := tw_i8 204 (by decide +kernel) (by decide +kernel)
theorem d_Model_waits_0 : decode b_Model_waits 0 = .ok (.aload_n 0, 1) := by decide +kernel
theorem d_Model_waits_1 : decode b_Model_waits 1 = .ok (.getfield 535, 3) := by decide +kernel
theorem d_Model_waits_4 : decode b_Model_waits 4 = .ok (.sipush 400, 3) := by decide +kernel
theorem d_Model_waits_7 : decode b_Model_waits 7 = .ok (.if_icmp .ne 12, 3) := by decide +kernel
theorem d_Model_waits_10 : decode b_Model_waits 10 = .ok (.aload_n 0, 1) := by decide +kernel
theorem d_Model_waits_11 : decode b_Model_waits 11 = .ok (.bipush 6, 2) := by decide +kernel
theorem d_Model_waits_13 : decode b_Model_waits 13 = .ok (.invokevirtual 596, 3) := by decide +kernel
theorem d_Model_waits_16 : decode b_Model_waits 16 = .ok (.pop2, 1) := by decide +kernel
theorem d_Model_waits_17 : decode b_Model_waits 17 = .ok (.iconst 0, 1) := by decide +kernel
theorem d_Model_waits_18 : decode b_Model_waits 18 = .ok (.ireturn, 1) := by decide +kernel
theorem d_Model_waits_19 : decode b_Model_waits 19 = .ok (.aload_n 0, 1) := by decide +kernel
theorem d_Model_waits_20 : decode b_Model_waits 20 = .ok (.dup, 1) := by decide +kernel
theorem d_Model_waits_21 : decode b_Model_waits 21 = .ok (.getfield 535, 3) := by decide +kernel
theorem d_Model_waits_24 : decode b_Model_waits 24 = .ok (.iconst 1, 1) := by decide +kernel
theorem d_Model_waits_25 : decode b_Model_waits 25 = .ok (.iadd, 1) := by decide +kernel
theorem d_Model_waits_26 : decode b_Model_waits 26 = .ok (.putfield 535, 3) := by decide +kernel
theorem d_Model_waits_29 : decode b_Model_waits 29 = .ok (.iconst 1, 1) := by decide +kernel
theorem d_Model_waits_30 : decode b_Model_waits 30 = .ok (.ireturn, 1) := by decide +kernel
theorem lk_Model_596 : Cond.methodLink "TurtleWorldModel" 596 ⟨"TurtleWorldModel", "fails", "(I)J"⟩ ∈ tw_T := tw_i10 160 (by decide +kernel) (by decide +kernel)
theorem in_Model_fails : Cond.instanceMethod ⟨"TurtleWorldModel", "fails", "(I)J"⟩ ∈ tw_T := tw_i10 162 (by decide +kernel) (by decide +kernel)
theorem sel_Model_fails : Cond.selects "TurtleWorldModel" ⟨"TurtleWorldModel", "fails", "(I)J"⟩ ⟨"TurtleWorldModel", "fails", "(I)J"⟩ ∈ tw_T := tw_inS 117 (by decide +kernel) (by decide +kernel)
theorem d_Model_makes_0 : decode b_Model_makes 0 = .ok (.aload_n 0, 1) := by decide +kernel
theorem d_Model_makes_1 : decode b_Model_makes 1 = .ok (.getfield 556, 3) := by decide +kernel
theorem d_Model_makes_4 : decode b_Model_makes 4 = .ok (.iload_n 1, 1) := by decide +kernel
theorem d_Model_makes_5 : decode b_Model_makes 5 = .ok (.iadd, 1) := by decide +kernel
theorem d_Model_makes_6 : decode b_Model_makes 6 = .ok (.sipush 30000, 3) := by decide +kernel
theorem d_Model_makes_9 : decode b_Model_makes 9 = .ok (.if_icmp .le 12, 3) := by decide +kernel
theorem d_Model_makes_12 : decode b_Model_makes 12 = .ok (.aload_n 0, 1) := by decide +kernel
theorem d_Model_makes_13 : decode b_Model_makes 13 = .ok (.bipush 8, 2) := by decide +kernel
theorem d_Model_makes_15 : decode b_Model_makes 15 = .ok (.invokevirtual 596, 3) := by decide +kernel
theorem d_Model_makes_18 : decode b_Model_makes 18 = .ok (.pop2, 1) := by decide +kernel
theorem d_Model_makes_19 : decode b_Model_makes 19 = .ok (.iconst 0, 1) := by decide +kernel
theorem d_Model_makes_20 : decode b_Model_makes 20 = .ok (.ireturn, 1) := by decide +kernel
theorem d_Model_makes_21 : decode b_Model_makes 21 = .ok (.aload_n 0, 1) := by decide +kernel
theorem d_Model_makes_22 : decode b_Model_makes 22 = .ok (.dup, 1) := by decide +kernel
theorem d_Model_makes_23 : decode b_Model_makes 23 = .ok (.getfield 556, 3) := by decide +kernel
theorem d_Model_makes_26 : decode b_Model_makes 26 = .ok (.iload_n 1, 1) := by decide +kernel
theorem d_Model_makes_27 : decode b_Model_makes 27 = .ok (.iadd, 1) := by decide +kernel
theorem d_Model_makes_28 : decode b_Model_makes 28 = .ok (.putfield 556, 3) := by decide +kernel
theorem d_Model_makes_31 : decode b_Model_makes 31 = .ok (.iconst 1, 1) := by decide +kernel
theorem d_Model_makes_32 : decode b_Model_makes 32 = .ok (.ireturn, 1) := by decide +kernel
theorem lk_Model_556 : Cond.fieldLink "TurtleWorldModel" 556 "TurtleWorldModel" "madeNow" "I" ∈ tw_T := tw_i8 174 (by decide +kernel) (by decide +kernel)
theorem d_Model_hasLevel_0 : decode b_Model_hasLevel 0 = .ok (.aload_n 0, 1) := by decide +kernel
theorem d_Model_hasLevel_1 : decode b_Model_hasLevel 1 = .ok (.getfield 532, 3) := by decide +kernel
theorem d_Model_hasLevel_4 : decode b_Model_hasLevel 4 = .ok (.sipush 150, 3) := by decide +kernel
theorem d_Model_hasLevel_7 : decode b_Model_hasLevel 7 = .ok (.if_icmp .ne 12, 3) := by decide +kernel
theorem d_Model_hasLevel_10 : decode b_Model_hasLevel 10 = .ok (.aload_n 0, 1) := by decide +kernel
theorem d_Model_hasLevel_11 : decode b_Model_hasLevel 11 = .ok (.bipush 6, 2) := by decide +kernel
theorem d_Model_hasLevel_13 : decode b_Model_hasLevel 13 = .ok (.invokevirtual 596, 3) := by decide +kernel
theorem d_Model_hasLevel_16 : decode b_Model_hasLevel 16 = .ok (.pop2, 1) := by decide +kernel
theorem d_Model_hasLevel_17 : decode b_Model_hasLevel 17 = .ok (.iconst 0, 1) := by decide +kernel
theorem d_Model_hasLevel_18 : decode b_Model_hasLevel 18 = .ok (.ireturn, 1) := by decide +kernel
theorem d_Model_hasLevel_19 : decode b_Model_hasLevel 19 = .ok (.iconst 1, 1) := by decide +kernel
theorem d_Model_hasLevel_20 : decode b_Model_hasLevel 20 = .ok (.ireturn, 1) := by decide +kernel
theorem d_Model_begins_0 : decode b_Model_begins 0 = .ok (.aload_n 0, 1) := by decide +kernel
theorem d_Model_begins_1 : decode b_Model_begins 1 = .ok (.getfield 523, 3) := by decide +kernel
theorem d_Model_begins_4 : decode b_Model_begins 4 = .ok (.sipush 20000, 3) := by decide +kernel
theorem d_Model_begins_7 : decode b_Model_begins 7 = .ok (.if_icmp .ne 17, 3) := by decide +kernel
theorem d_Model_begins_10 : decode b_Model_begins 10 = .ok (.aload_n 0, 1) := by decide +kernel
theorem d_Model_begins_11 : decode b_Model_begins 11 = .ok (.bipush 6, 2) := by decide +kernel
theorem d_Model_begins_13 : decode b_Model_begins 13 = .ok (.putfield 559, 3) := by decide +kernel
theorem d_Model_begins_16 : decode b_Model_begins 16 = .ok (.aload_n 0, 1) := by decide +kernel
theorem d_Model_begins_17 : decode b_Model_begins 17 = .ok (.bipush 13, 2) := by decide +kernel
theorem d_Model_begins_19 : decode b_Model_begins 19 = .ok (.putfield 599, 3) := by decide +kernel
theorem d_Model_begins_22 : decode b_Model_begins 22 = .ok (.iconst 0, 1) := by decide +kernel
theorem d_Model_begins_23 : decode b_Model_begins 23 = .ok (.ireturn, 1) := by decide +kernel
theorem d_Model_begins_24 : decode b_Model_begins 24 = .ok (.aload_n 0, 1) := by decide +kernel
theorem d_Model_begins_25 : decode b_Model_begins 25 = .ok (.getfield 523, 3) := by decide +kernel
theorem d_Model_begins_28 : decode b_Model_begins 28 = .ok (.i2l, 1) := by decide +kernel
theorem d_Model_begins_29 : decode b_Model_begins 29 = .ok (.aload_n 0, 1) := by decide +kernel
theorem d_Model_begins_30 : decode b_Model_begins 30 = .ok (.getfield 547, 3) := by decide +kernel
theorem d_Model_begins_33 : decode b_Model_begins 33 = .ok (.lcmp, 1) := by decide +kernel
theorem d_Model_begins_34 : decode b_Model_begins 34 = .ok (.ifCond .lt 10, 3) := by decide +kernel
theorem d_Model_begins_37 : decode b_Model_begins 37 = .ok (.aload_n 0, 1) := by decide +kernel
theorem d_Model_begins_38 : decode b_Model_begins 38 = .ok (.iconst 1, 1) := by decide +kernel
theorem d_Model_begins_39 : decode b_Model_begins 39 = .ok (.putfield 559, 3) := by decide +kernel
theorem d_Model_begins_42 : decode b_Model_begins 42 = .ok (.iconst 0, 1) := by decide +kernel
theorem d_Model_begins_43 : decode b_Model_begins 43 = .ok (.ireturn, 1) := by decide +kernel
theorem d_Model_begins_44 : decode b_Model_begins 44 = .ok (.aload_n 0, 1) := by decide +kernel
theorem d_Model_begins_45 : decode b_Model_begins 45 = .ok (.dup, 1) := by decide +kernel
theorem d_Model_begins_46 : decode b_Model_begins 46 = .ok (.getfield 523, 3) := by decide +kernel
theorem d_Model_begins_49 : decode b_Model_begins 49 = .ok (.iconst 1, 1) := by decide +kernel
theorem d_Model_begins_50 : decode b_Model_begins 50 = .ok (.iadd, 1) := by decide +kernel
theorem d_Model_begins_51 : decode b_Model_begins 51 = .ok (.putfield 523, 3) := by decide +kernel
theorem d_Model_begins_54 : decode b_Model_begins 54 = .ok (.iconst 1, 1) := by decide +kernel
theorem d_Model_begins_55 : decode b_Model_begins 55 = .ok (.ireturn, 1) := by decide +kernel
theorem lk_Model_523 : Cond.fieldLink "TurtleWorldModel" 523 "TurtleWorldModel" "done" "I" ∈ tw_T := tw_i8 171 (by decide +kernel) (by decide +kernel)
theorem lk_Model_547 : Cond.fieldLink "TurtleWorldModel" 547 "TurtleWorldModel" "budget" "J" ∈ tw_T := tw_i8 186 (by decide +kernel) (by decide +kernel)
theorem d_Model_fail_0 : decode b_Model_fail 0 = .ok (.aload_n 0, 1) := by decide +kernel
theorem d_Model_fail_1 : decode b_Model_fail 1 = .ok (.getfield 416, 3) := by decide +kernel
theorem d_Model_fail_4 : decode b_Model_fail 4 = .ok (.ifCond .ne 13, 3) := by decide +kernel
theorem d_Model_fail_7 : decode b_Model_fail 7 = .ok (.aload_n 0, 1) := by decide +kernel
theorem d_Model_fail_8 : decode b_Model_fail 8 = .ok (.iload_n 1, 1) := by decide +kernel
theorem d_Model_fail_9 : decode b_Model_fail 9 = .ok (.putfield 416, 3) := by decide +kernel
theorem d_Model_fail_12 : decode b_Model_fail 12 = .ok (.aload_n 0, 1) := by decide +kernel
theorem d_Model_fail_13 : decode b_Model_fail 13 = .ok (.iload_n 2, 1) := by decide +kernel
theorem d_Model_fail_14 : decode b_Model_fail 14 = .ok (.putfield 264, 3) := by decide +kernel
theorem d_Model_fail_17 : decode b_Model_fail 17 = .ok (.return_, 1) := by decide +kernel
