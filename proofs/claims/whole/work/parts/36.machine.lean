theorem d_Machine_finishGiving_0 : decode b_Machine_finishGiving 0 = .ok (.aload_n 0, 1) := by decide +kernel
theorem d_Machine_finishGiving_1 : decode b_Machine_finishGiving 1 = .ok (.iconst 2, 1) := by decide +kernel
theorem d_Machine_finishGiving_2 : decode b_Machine_finishGiving 2 = .ok (.putfield 62, 3) := by decide +kernel
theorem d_Machine_finishGiving_5 : decode b_Machine_finishGiving 5 = .ok (.aload_n 0, 1) := by decide +kernel
theorem d_Machine_finishGiving_6 : decode b_Machine_finishGiving 6 = .ok (.iload_n 1, 1) := by decide +kernel
theorem d_Machine_finishGiving_7 : decode b_Machine_finishGiving 7 = .ok (.putfield 111, 3) := by decide +kernel
theorem d_Machine_finishGiving_10 : decode b_Machine_finishGiving 10 = .ok (.ldc 110, 2) := by decide +kernel
theorem d_Machine_finishGiving_12 : decode b_Machine_finishGiving 12 = .ok (.ireturn, 1) := by decide +kernel
theorem lk_Machine_62 : Cond.fieldLink "TurtleWorld$Machine" 62 "TurtleWorld$Machine" "phase" "I" ∈ tw_T := tw_i3 173 (by decide +kernel) (by decide +kernel)
theorem lk_Machine_111 : Cond.fieldLink "TurtleWorld$Machine" 111 "TurtleWorld$Machine" "got" "I" ∈ tw_T := tw_i3 174 (by decide +kernel) (by decide +kernel)
theorem lk_Machine_110 : Cond.constant "TurtleWorld$Machine" 110 (-2147483584) ∈ tw_T := tw_i5 44 (by decide +kernel) (by decide +kernel)
theorem d_Machine_awaitTurn_0 : decode b_Machine_awaitTurn 0 = .ok (.aload_n 0, 1) := by decide +kernel
theorem d_Machine_awaitTurn_1 : decode b_Machine_awaitTurn 1 = .ok (.iconst 0, 1) := by decide +kernel
theorem d_Machine_awaitTurn_2 : decode b_Machine_awaitTurn 2 = .ok (.putfield 62, 3) := by decide +kernel
theorem d_Machine_awaitTurn_5 : decode b_Machine_awaitTurn 5 = .ok (.aload_n 0, 1) := by decide +kernel
theorem d_Machine_awaitTurn_6 : decode b_Machine_awaitTurn 6 = .ok (.getfield 22, 3) := by decide +kernel
theorem d_Machine_awaitTurn_9 : decode b_Machine_awaitTurn 9 = .ok (.iconst 3, 1) := by decide +kernel
theorem d_Machine_awaitTurn_10 : decode b_Machine_awaitTurn 10 = .ok (.putfield 94, 3) := by decide +kernel
theorem d_Machine_awaitTurn_13 : decode b_Machine_awaitTurn 13 = .ok (.ldc 110, 2) := by decide +kernel
theorem d_Machine_awaitTurn_15 : decode b_Machine_awaitTurn 15 = .ok (.ireturn, 1) := by decide +kernel
theorem lk_Machine_94 : Cond.fieldLink "TurtleWorld$Machine" 94 "TurtleWorld$Waiting" "ready" "I" ∈ tw_T := tw_i3 104 (by decide +kernel) (by decide +kernel)
theorem d_Machine_tellCaught_0 : decode b_Machine_tellCaught 0 = .ok (.aload_n 0, 1) := by decide +kernel
theorem d_Machine_tellCaught_1 : decode b_Machine_tellCaught 1 = .ok (.getfield 18, 3) := by decide +kernel
theorem d_Machine_tellCaught_4 : decode b_Machine_tellCaught 4 = .ok (.getfield 127, 3) := by decide +kernel
theorem d_Machine_tellCaught_7 : decode b_Machine_tellCaught 7 = .ok (.istore_n 1, 1) := by decide +kernel
theorem d_Machine_tellCaught_8 : decode b_Machine_tellCaught 8 = .ok (.aload_n 0, 1) := by decide +kernel
theorem d_Machine_tellCaught_9 : decode b_Machine_tellCaught 9 = .ok (.getfield 18, 3) := by decide +kernel
theorem d_Machine_tellCaught_12 : decode b_Machine_tellCaught 12 = .ok (.iconst 0, 1) := by decide +kernel
theorem d_Machine_tellCaught_13 : decode b_Machine_tellCaught 13 = .ok (.putfield 127, 3) := by decide +kernel
theorem d_Machine_tellCaught_16 : decode b_Machine_tellCaught 16 = .ok (.iload_n 1, 1) := by decide +kernel
theorem d_Machine_tellCaught_17 : decode b_Machine_tellCaught 17 = .ok (.invokestatic 389, 3) := by decide +kernel
theorem d_Machine_tellCaught_20 : decode b_Machine_tellCaught 20 = .ok (.ireturn, 1) := by decide +kernel
theorem lk_Machine_18 : Cond.fieldLink "TurtleWorld$Machine" 18 "TurtleWorld$Machine" "line" "LTurtleWorld$Line;" ∈ tw_T := tw_i3 167 (by decide +kernel) (by decide +kernel)
theorem lk_Machine_127 : Cond.fieldLink "TurtleWorld$Machine" 127 "TurtleWorld$Line" "caught" "I" ∈ tw_T := tw_i3 8 (by decide +kernel) (by decide +kernel)
theorem lk_Machine_389 : Cond.methodLink "TurtleWorld$Machine" 389 ⟨"TurtleWorld$Heap", "number", "(I)I"⟩ ∈ tw_T := tw_i7 79 (by decide +kernel) (by decide +kernel)
theorem d_Machine_changeLists_0 : decode b_Machine_changeLists 0 = .ok (.aload_n 0, 1) := by decide +kernel
theorem d_Machine_changeLists_1 : decode b_Machine_changeLists 1 = .ok (.getfield 18, 3) := by decide +kernel
theorem d_Machine_changeLists_4 : decode b_Machine_changeLists 4 = .ok (.getfield 161, 3) := by decide +kernel
theorem d_Machine_changeLists_7 : decode b_Machine_changeLists 7 = .ok (.iload_n 1, 1) := by decide +kernel
theorem d_Machine_changeLists_8 : decode b_Machine_changeLists 8 = .ok (.iaload, 1) := by decide +kernel
theorem d_Machine_changeLists_9 : decode b_Machine_changeLists 9 = .ok (.istore_n 3, 1) := by decide +kernel
theorem d_Machine_changeLists_10 : decode b_Machine_changeLists 10 = .ok (.aload_n 0, 1) := by decide +kernel
theorem d_Machine_changeLists_11 : decode b_Machine_changeLists 11 = .ok (.getfield 18, 3) := by decide +kernel
theorem d_Machine_changeLists_14 : decode b_Machine_changeLists 14 = .ok (.getfield 161, 3) := by decide +kernel
theorem d_Machine_changeLists_17 : decode b_Machine_changeLists 17 = .ok (.iload_n 1, 1) := by decide +kernel
theorem d_Machine_changeLists_18 : decode b_Machine_changeLists 18 = .ok (.aload_n 0, 1) := by decide +kernel
theorem d_Machine_changeLists_19 : decode b_Machine_changeLists 19 = .ok (.getfield 18, 3) := by decide +kernel
theorem d_Machine_changeLists_22 : decode b_Machine_changeLists 22 = .ok (.getfield 267, 3) := by decide +kernel
theorem d_Machine_changeLists_25 : decode b_Machine_changeLists 25 = .ok (.iload_n 1, 1) := by decide +kernel
theorem d_Machine_changeLists_26 : decode b_Machine_changeLists 26 = .ok (.iaload, 1) := by decide +kernel
theorem d_Machine_changeLists_27 : decode b_Machine_changeLists 27 = .ok (.iastore, 1) := by decide +kernel
theorem d_Machine_changeLists_28 : decode b_Machine_changeLists 28 = .ok (.aload_n 0, 1) := by decide +kernel
theorem d_Machine_changeLists_29 : decode b_Machine_changeLists 29 = .ok (.getfield 18, 3) := by decide +kernel
theorem d_Machine_changeLists_32 : decode b_Machine_changeLists 32 = .ok (.getfield 267, 3) := by decide +kernel
theorem d_Machine_changeLists_35 : decode b_Machine_changeLists 35 = .ok (.iload_n 1, 1) := by decide +kernel
theorem d_Machine_changeLists_36 : decode b_Machine_changeLists 36 = .ok (.iload_n 3, 1) := by decide +kernel
theorem d_Machine_changeLists_37 : decode b_Machine_changeLists 37 = .ok (.iastore, 1) := by decide +kernel
theorem d_Machine_changeLists_38 : decode b_Machine_changeLists 38 = .ok (.aload_n 0, 1) := by decide +kernel
theorem d_Machine_changeLists_39 : decode b_Machine_changeLists 39 = .ok (.getfield 18, 3) := by decide +kernel
theorem d_Machine_changeLists_42 : decode b_Machine_changeLists 42 = .ok (.getfield 133, 3) := by decide +kernel
theorem d_Machine_changeLists_45 : decode b_Machine_changeLists 45 = .ok (.iload_n 1, 1) := by decide +kernel
theorem d_Machine_changeLists_46 : decode b_Machine_changeLists 46 = .ok (.iload_n 2, 1) := by decide +kernel
theorem d_Machine_changeLists_47 : decode b_Machine_changeLists 47 = .ok (.iastore, 1) := by decide +kernel
theorem d_Machine_changeLists_48 : decode b_Machine_changeLists 48 = .ok (.aload_n 0, 1) := by decide +kernel
theorem d_Machine_changeLists_49 : decode b_Machine_changeLists 49 = .ok (.getfield 18, 3) := by decide +kernel
theorem d_Machine_changeLists_52 : decode b_Machine_changeLists 52 = .ok (.getfield 164, 3) := by decide +kernel
theorem d_Machine_changeLists_55 : decode b_Machine_changeLists 55 = .ok (.iload_n 1, 1) := by decide +kernel
theorem d_Machine_changeLists_56 : decode b_Machine_changeLists 56 = .ok (.iconst 0, 1) := by decide +kernel
theorem d_Machine_changeLists_57 : decode b_Machine_changeLists 57 = .ok (.iastore, 1) := by decide +kernel
theorem d_Machine_changeLists_58 : decode b_Machine_changeLists 58 = .ok (.aload_n 0, 1) := by decide +kernel
theorem d_Machine_changeLists_59 : decode b_Machine_changeLists 59 = .ok (.iconst 0, 1) := by decide +kernel
theorem d_Machine_changeLists_60 : decode b_Machine_changeLists 60 = .ok (.putfield 62, 3) := by decide +kernel
theorem d_Machine_changeLists_63 : decode b_Machine_changeLists 63 = .ok (.ldc 110, 2) := by decide +kernel
theorem d_Machine_changeLists_65 : decode b_Machine_changeLists 65 = .ok (.ireturn, 1) := by decide +kernel
theorem lk_Machine_161 : Cond.fieldLink "TurtleWorld$Machine" 161 "TurtleWorld$Line" "list" "[I" ∈ tw_T := tw_i3 19 (by decide +kernel) (by decide +kernel)
theorem lk_Machine_267 : Cond.fieldLink "TurtleWorld$Machine" 267 "TurtleWorld$Line" "other" "[I" ∈ tw_T := tw_i3 27 (by decide +kernel) (by decide +kernel)
theorem lk_Machine_133 : Cond.fieldLink "TurtleWorld$Machine" 133 "TurtleWorld$Line" "kind" "[I" ∈ tw_T := tw_i3 17 (by decide +kernel) (by decide +kernel)
theorem lk_Machine_164 : Cond.fieldLink "TurtleWorld$Machine" 164 "TurtleWorld$Line" "next" "[I" ∈ tw_T := tw_i3 21 (by decide +kernel) (by decide +kernel)
theorem d_Machine_beginTurn_0 : decode b_Machine_beginTurn 0 = .ok (.aload_n 0, 1) := by decide +kernel
theorem d_Machine_beginTurn_1 : decode b_Machine_beginTurn 1 = .ok (.getfield 18, 3) := by decide +kernel
theorem d_Machine_beginTurn_4 : decode b_Machine_beginTurn 4 = .ok (.getfield 130, 3) := by decide +kernel
theorem d_Machine_beginTurn_7 : decode b_Machine_beginTurn 7 = .ok (.iconst 1, 1) := by decide +kernel
theorem d_Machine_beginTurn_8 : decode b_Machine_beginTurn 8 = .ok (.isub, 1) := by decide +kernel
theorem d_Machine_beginTurn_9 : decode b_Machine_beginTurn 9 = .ok (.istore_n 1, 1) := by decide +kernel
theorem d_Machine_beginTurn_10 : decode b_Machine_beginTurn 10 = .ok (.iload_n 1, 1) := by decide +kernel
theorem d_Machine_beginTurn_11 : decode b_Machine_beginTurn 11 = .ok (.ifCond .ge 6, 3) := by decide +kernel
theorem d_Machine_beginTurn_14 : decode b_Machine_beginTurn 14 = .ok (.ldc 160, 2) := by decide +kernel
theorem d_Machine_beginTurn_16 : decode b_Machine_beginTurn 16 = .ok (.ireturn, 1) := by decide +kernel
theorem d_Machine_beginTurn_17 : decode b_Machine_beginTurn 17 = .ok (.aload_n 0, 1) := by decide +kernel
theorem d_Machine_beginTurn_18 : decode b_Machine_beginTurn 18 = .ok (.getfield 18, 3) := by decide +kernel
theorem d_Machine_beginTurn_21 : decode b_Machine_beginTurn 21 = .ok (.getfield 133, 3) := by decide +kernel
theorem d_Machine_beginTurn_24 : decode b_Machine_beginTurn 24 = .ok (.iload_n 1, 1) := by decide +kernel
theorem d_Machine_beginTurn_25 : decode b_Machine_beginTurn 25 = .ok (.iaload, 1) := by decide +kernel
theorem d_Machine_beginTurn_26 : decode b_Machine_beginTurn 26 = .ok (.iconst 4, 1) := by decide +kernel
theorem d_Machine_beginTurn_27 : decode b_Machine_beginTurn 27 = .ok (.if_icmp .ne 11, 3) := by decide +kernel
theorem d_Machine_beginTurn_30 : decode b_Machine_beginTurn 30 = .ok (.aload_n 0, 1) := by decide +kernel
theorem d_Machine_beginTurn_31 : decode b_Machine_beginTurn 31 = .ok (.iload_n 1, 1) := by decide +kernel
theorem d_Machine_beginTurn_32 : decode b_Machine_beginTurn 32 = .ok (.bipush 9, 2) := by decide +kernel
theorem d_Machine_beginTurn_34 : decode b_Machine_beginTurn 34 = .ok (.invokevirtual 284, 3) := by decide +kernel
theorem d_Machine_beginTurn_37 : decode b_Machine_beginTurn 37 = .ok (.ireturn, 1) := by decide +kernel
theorem d_Machine_beginTurn_38 : decode b_Machine_beginTurn 38 = .ok (.aload_n 0, 1) := by decide +kernel
theorem d_Machine_beginTurn_39 : decode b_Machine_beginTurn 39 = .ok (.getfield 18, 3) := by decide +kernel
theorem d_Machine_beginTurn_42 : decode b_Machine_beginTurn 42 = .ok (.getfield 255, 3) := by decide +kernel
theorem d_Machine_beginTurn_45 : decode b_Machine_beginTurn 45 = .ok (.iload_n 1, 1) := by decide +kernel
theorem d_Machine_beginTurn_46 : decode b_Machine_beginTurn 46 = .ok (.dup2, 1) := by decide +kernel
theorem d_Machine_beginTurn_47 : decode b_Machine_beginTurn 47 = .ok (.iaload, 1) := by decide +kernel
theorem d_Machine_beginTurn_48 : decode b_Machine_beginTurn 48 = .ok (.iconst 1, 1) := by decide +kernel
theorem d_Machine_beginTurn_49 : decode b_Machine_beginTurn 49 = .ok (.iadd, 1) := by decide +kernel
theorem d_Machine_beginTurn_50 : decode b_Machine_beginTurn 50 = .ok (.iastore, 1) := by decide +kernel
theorem d_Machine_beginTurn_51 : decode b_Machine_beginTurn 51 = .ok (.aload_n 0, 1) := by decide +kernel
theorem d_Machine_beginTurn_52 : decode b_Machine_beginTurn 52 = .ok (.getfield 18, 3) := by decide +kernel
theorem d_Machine_beginTurn_55 : decode b_Machine_beginTurn 55 = .ok (.getfield 164, 3) := by decide +kernel
theorem d_Machine_beginTurn_58 : decode b_Machine_beginTurn 58 = .ok (.iload_n 1, 1) := by decide +kernel
theorem d_Machine_beginTurn_59 : decode b_Machine_beginTurn 59 = .ok (.iconst 0, 1) := by decide +kernel
theorem d_Machine_beginTurn_60 : decode b_Machine_beginTurn 60 = .ok (.iastore, 1) := by decide +kernel
theorem d_Machine_beginTurn_61 : decode b_Machine_beginTurn 61 = .ok (.ldc 110, 2) := by decide +kernel
theorem d_Machine_beginTurn_63 : decode b_Machine_beginTurn 63 = .ok (.ireturn, 1) := by decide +kernel
theorem lk_Machine_130 : Cond.fieldLink "TurtleWorld$Machine" 130 "TurtleWorld$Line" "depth" "I" ∈ tw_T := tw_i3 11 (by decide +kernel) (by decide +kernel)
theorem lk_Machine_255 : Cond.fieldLink "TurtleWorld$Machine" 255 "TurtleWorld$Line" "turns" "[I" ∈ tw_T := tw_i3 23 (by decide +kernel) (by decide +kernel)
theorem lk_Machine_284 : Cond.methodLink "TurtleWorld$Machine" 284 ⟨"TurtleWorld$Machine", "changeLists", "(II)I"⟩ ∈ tw_T := tw_i5 161 (by decide +kernel) (by decide +kernel)
theorem in_Machine_changeLists : Cond.instanceMethod ⟨"TurtleWorld$Machine", "changeLists", "(II)I"⟩ ∈ tw_T := tw_i5 163 (by decide +kernel) (by decide +kernel)
theorem sel_Machine_changeLists : Cond.selects "TurtleWorld$Machine" ⟨"TurtleWorld$Machine", "changeLists", "(II)I"⟩ ⟨"TurtleWorld$Machine", "changeLists", "(II)I"⟩ ∈ tw_T := tw_inS 48 (by decide +kernel) (by decide +kernel)
theorem lk_Machine_160 : Cond.constant "TurtleWorld$Machine" 160 (-2147483644) ∈ tw_T := tw_i5 30 (by decide +kernel) (by decide +kernel)
