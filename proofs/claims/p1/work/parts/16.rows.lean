theorem d_Waiting_begin_0 : decode b_Waiting_begin 0 = .ok (.aload_n 0, 1) := by decide +kernel
theorem d_Waiting_begin_1 : decode b_Waiting_begin 1 = .ok (.iconst 0, 1) := by decide +kernel
theorem d_Waiting_begin_2 : decode b_Waiting_begin 2 = .ok (.putfield 36, 3) := by decide +kernel
theorem d_Waiting_begin_5 : decode b_Waiting_begin 5 = .ok (.aload_n 0, 1) := by decide +kernel
theorem d_Waiting_begin_6 : decode b_Waiting_begin 6 = .ok (.iconst 0, 1) := by decide +kernel
theorem d_Waiting_begin_7 : decode b_Waiting_begin 7 = .ok (.putfield 40, 3) := by decide +kernel
theorem d_Waiting_begin_10 : decode b_Waiting_begin 10 = .ok (.aload_n 0, 1) := by decide +kernel
theorem d_Waiting_begin_11 : decode b_Waiting_begin 11 = .ok (.iconst 0, 1) := by decide +kernel
theorem d_Waiting_begin_12 : decode b_Waiting_begin 12 = .ok (.putfield 43, 3) := by decide +kernel
theorem d_Waiting_begin_15 : decode b_Waiting_begin 15 = .ok (.return_, 1) := by decide +kernel
theorem lk_Waiting_36 : Cond.fieldLink "TurtleWorld$Waiting" 36 "TurtleWorld$Waiting" "count" "I" ∈ tw_T := tw_i3 95 (by decide +kernel) (by decide +kernel)
theorem lk_Waiting_40 : Cond.fieldLink "TurtleWorld$Waiting" 40 "TurtleWorld$Waiting" "height" "I" ∈ tw_T := tw_i3 100 (by decide +kernel) (by decide +kernel)
theorem lk_Waiting_43 : Cond.fieldLink "TurtleWorld$Waiting" 43 "TurtleWorld$Waiting" "ready" "I" ∈ tw_T := tw_i3 103 (by decide +kernel) (by decide +kernel)
theorem d_Waiting_meet_0 : decode b_Waiting_meet 0 = .ok (.aload_n 0, 1) := by decide +kernel
theorem d_Waiting_meet_1 : decode b_Waiting_meet 1 = .ok (.getfield 36, 3) := by decide +kernel
theorem d_Waiting_meet_4 : decode b_Waiting_meet 4 = .ok (.sipush 400, 3) := by decide +kernel
theorem d_Waiting_meet_7 : decode b_Waiting_meet 7 = .ok (.if_icmp .gt 57, 3) := by decide +kernel
theorem d_Waiting_meet_10 : decode b_Waiting_meet 10 = .ok (.aload_n 0, 1) := by decide +kernel
theorem d_Waiting_meet_11 : decode b_Waiting_meet 11 = .ok (.getfield 9, 3) := by decide +kernel
theorem d_Waiting_meet_14 : decode b_Waiting_meet 14 = .ok (.aload_n 0, 1) := by decide +kernel
theorem d_Waiting_meet_15 : decode b_Waiting_meet 15 = .ok (.getfield 36, 3) := by decide +kernel
theorem d_Waiting_meet_18 : decode b_Waiting_meet 18 = .ok (.iload_n 1, 1) := by decide +kernel
theorem d_Waiting_meet_19 : decode b_Waiting_meet 19 = .ok (.iastore, 1) := by decide +kernel
theorem d_Waiting_meet_20 : decode b_Waiting_meet 20 = .ok (.aload_n 0, 1) := by decide +kernel
theorem d_Waiting_meet_21 : decode b_Waiting_meet 21 = .ok (.getfield 15, 3) := by decide +kernel
theorem d_Waiting_meet_24 : decode b_Waiting_meet 24 = .ok (.aload_n 0, 1) := by decide +kernel
theorem d_Waiting_meet_25 : decode b_Waiting_meet 25 = .ok (.getfield 36, 3) := by decide +kernel
theorem d_Waiting_meet_28 : decode b_Waiting_meet 28 = .ok (.iload_n 2, 1) := by decide +kernel
theorem d_Waiting_meet_29 : decode b_Waiting_meet 29 = .ok (.iastore, 1) := by decide +kernel
theorem d_Waiting_meet_30 : decode b_Waiting_meet 30 = .ok (.aload_n 0, 1) := by decide +kernel
theorem d_Waiting_meet_31 : decode b_Waiting_meet 31 = .ok (.getfield 18, 3) := by decide +kernel
theorem d_Waiting_meet_34 : decode b_Waiting_meet 34 = .ok (.aload_n 0, 1) := by decide +kernel
theorem d_Waiting_meet_35 : decode b_Waiting_meet 35 = .ok (.getfield 36, 3) := by decide +kernel
theorem d_Waiting_meet_38 : decode b_Waiting_meet 38 = .ok (.iload_n 3, 1) := by decide +kernel
theorem d_Waiting_meet_39 : decode b_Waiting_meet 39 = .ok (.iastore, 1) := by decide +kernel
theorem d_Waiting_meet_40 : decode b_Waiting_meet 40 = .ok (.aload_n 0, 1) := by decide +kernel
theorem d_Waiting_meet_41 : decode b_Waiting_meet 41 = .ok (.getfield 21, 3) := by decide +kernel
theorem d_Waiting_meet_44 : decode b_Waiting_meet 44 = .ok (.aload_n 0, 1) := by decide +kernel
theorem d_Waiting_meet_45 : decode b_Waiting_meet 45 = .ok (.getfield 36, 3) := by decide +kernel
theorem d_Waiting_meet_48 : decode b_Waiting_meet 48 = .ok (.iload 4, 2) := by decide +kernel
theorem d_Waiting_meet_50 : decode b_Waiting_meet 50 = .ok (.iastore, 1) := by decide +kernel
theorem d_Waiting_meet_51 : decode b_Waiting_meet 51 = .ok (.aload_n 0, 1) := by decide +kernel
theorem d_Waiting_meet_52 : decode b_Waiting_meet 52 = .ok (.getfield 24, 3) := by decide +kernel
theorem d_Waiting_meet_55 : decode b_Waiting_meet 55 = .ok (.aload_n 0, 1) := by decide +kernel
theorem d_Waiting_meet_56 : decode b_Waiting_meet 56 = .ok (.getfield 36, 3) := by decide +kernel
theorem d_Waiting_meet_59 : decode b_Waiting_meet 59 = .ok (.aload_n 0, 1) := by decide +kernel
theorem d_Waiting_meet_60 : decode b_Waiting_meet 60 = .ok (.getfield 40, 3) := by decide +kernel
theorem d_Waiting_meet_63 : decode b_Waiting_meet 63 = .ok (.iastore, 1) := by decide +kernel
theorem d_Waiting_meet_64 : decode b_Waiting_meet 64 = .ok (.return_, 1) := by decide +kernel
theorem lk_Waiting_9 : Cond.fieldLink "TurtleWorld$Waiting" 9 "TurtleWorld$Waiting" "kind" "[I" ∈ tw_T := tw_i3 82 (by decide +kernel) (by decide +kernel)
theorem lk_Waiting_15 : Cond.fieldLink "TurtleWorld$Waiting" 15 "TurtleWorld$Waiting" "code" "[I" ∈ tw_T := tw_i3 84 (by decide +kernel) (by decide +kernel)
theorem lk_Waiting_18 : Cond.fieldLink "TurtleWorld$Waiting" 18 "TurtleWorld$Waiting" "need" "[I" ∈ tw_T := tw_i3 86 (by decide +kernel) (by decide +kernel)
theorem lk_Waiting_21 : Cond.fieldLink "TurtleWorld$Waiting" 21 "TurtleWorld$Waiting" "strength" "[I" ∈ tw_T := tw_i3 88 (by decide +kernel) (by decide +kernel)
theorem lk_Waiting_24 : Cond.fieldLink "TurtleWorld$Waiting" 24 "TurtleWorld$Waiting" "base" "[I" ∈ tw_T := tw_i3 90 (by decide +kernel) (by decide +kernel)
theorem d_Waiting_meetCall_0 : decode b_Waiting_meetCall 0 = .ok (.aload_n 0, 1) := by decide +kernel
theorem d_Waiting_meetCall_1 : decode b_Waiting_meetCall 1 = .ok (.getfield 36, 3) := by decide +kernel
theorem d_Waiting_meetCall_4 : decode b_Waiting_meetCall 4 = .ok (.sipush 400, 3) := by decide +kernel
theorem d_Waiting_meetCall_7 : decode b_Waiting_meetCall 7 = .ok (.if_icmp .gt 32, 3) := by decide +kernel
theorem d_Waiting_meetCall_10 : decode b_Waiting_meetCall 10 = .ok (.aload_n 0, 1) := by decide +kernel
theorem d_Waiting_meetCall_11 : decode b_Waiting_meetCall 11 = .ok (.iconst 2, 1) := by decide +kernel
theorem d_Waiting_meetCall_12 : decode b_Waiting_meetCall 12 = .ok (.iload_n 1, 1) := by decide +kernel
theorem d_Waiting_meetCall_13 : decode b_Waiting_meetCall 13 = .ok (.iload 4, 2) := by decide +kernel
theorem d_Waiting_meetCall_15 : decode b_Waiting_meetCall 15 = .ok (.iconst 0, 1) := by decide +kernel
theorem d_Waiting_meetCall_16 : decode b_Waiting_meetCall 16 = .ok (.invokevirtual 46, 3) := by decide +kernel
theorem d_Waiting_meetCall_19 : decode b_Waiting_meetCall 19 = .ok (.aload_n 0, 1) := by decide +kernel
theorem d_Waiting_meetCall_20 : decode b_Waiting_meetCall 20 = .ok (.getfield 27, 3) := by decide +kernel
theorem d_Waiting_meetCall_23 : decode b_Waiting_meetCall 23 = .ok (.aload_n 0, 1) := by decide +kernel
theorem d_Waiting_meetCall_24 : decode b_Waiting_meetCall 24 = .ok (.getfield 36, 3) := by decide +kernel
theorem d_Waiting_meetCall_27 : decode b_Waiting_meetCall 27 = .ok (.iload_n 2, 1) := by decide +kernel
theorem d_Waiting_meetCall_28 : decode b_Waiting_meetCall 28 = .ok (.iastore, 1) := by decide +kernel
theorem d_Waiting_meetCall_29 : decode b_Waiting_meetCall 29 = .ok (.aload_n 0, 1) := by decide +kernel
theorem d_Waiting_meetCall_30 : decode b_Waiting_meetCall 30 = .ok (.getfield 30, 3) := by decide +kernel
theorem d_Waiting_meetCall_33 : decode b_Waiting_meetCall 33 = .ok (.aload_n 0, 1) := by decide +kernel
theorem d_Waiting_meetCall_34 : decode b_Waiting_meetCall 34 = .ok (.getfield 36, 3) := by decide +kernel
theorem d_Waiting_meetCall_37 : decode b_Waiting_meetCall 37 = .ok (.iload_n 3, 1) := by decide +kernel
theorem d_Waiting_meetCall_38 : decode b_Waiting_meetCall 38 = .ok (.iastore, 1) := by decide +kernel
theorem d_Waiting_meetCall_39 : decode b_Waiting_meetCall 39 = .ok (.return_, 1) := by decide +kernel
theorem lk_Waiting_46 : Cond.methodLink "TurtleWorld$Waiting" 46 ⟨"TurtleWorld$Waiting", "meet", "(IIII)V"⟩ ∈ tw_T := tw_i5 86 (by decide +kernel) (by decide +kernel)
theorem in_Waiting_meet : Cond.instanceMethod ⟨"TurtleWorld$Waiting", "meet", "(IIII)V"⟩ ∈ tw_T := tw_i5 87 (by decide +kernel) (by decide +kernel)
theorem sel_Waiting_meet : Cond.selects "TurtleWorld$Waiting" ⟨"TurtleWorld$Waiting", "meet", "(IIII)V"⟩ ⟨"TurtleWorld$Waiting", "meet", "(IIII)V"⟩ ∈ tw_T := tw_i5 88 (by decide +kernel) (by decide +kernel)
theorem ini_Waiting : Cond.initialized "TurtleWorld$Waiting" ∈ tw_T := tw_i1 17 (by decide +kernel) (by decide +kernel)
theorem lk_Waiting_27 : Cond.fieldLink "TurtleWorld$Waiting" 27 "TurtleWorld$Waiting" "inputs" "[I" ∈ tw_T := tw_i3 91 (by decide +kernel) (by decide +kernel)
theorem lk_Waiting_30 : Cond.fieldLink "TurtleWorld$Waiting" 30 "TurtleWorld$Waiting" "body" "[I" ∈ tw_T := tw_i3 93 (by decide +kernel) (by decide +kernel)
theorem d_Waiting_settleLast_0 : decode b_Waiting_settleLast 0 = .ok (.aload_n 0, 1) := by decide +kernel
theorem d_Waiting_settleLast_1 : decode b_Waiting_settleLast 1 = .ok (.getfield 36, 3) := by decide +kernel
theorem d_Waiting_settleLast_4 : decode b_Waiting_settleLast 4 = .ok (.sipush 400, 3) := by decide +kernel
theorem d_Waiting_settleLast_7 : decode b_Waiting_settleLast 7 = .ok (.if_icmp .gt 31, 3) := by decide +kernel
theorem d_Waiting_settleLast_10 : decode b_Waiting_settleLast 10 = .ok (.aload_n 0, 1) := by decide +kernel
theorem d_Waiting_settleLast_11 : decode b_Waiting_settleLast 11 = .ok (.getfield 18, 3) := by decide +kernel
theorem d_Waiting_settleLast_14 : decode b_Waiting_settleLast 14 = .ok (.aload_n 0, 1) := by decide +kernel
theorem d_Waiting_settleLast_15 : decode b_Waiting_settleLast 15 = .ok (.getfield 36, 3) := by decide +kernel
theorem d_Waiting_settleLast_18 : decode b_Waiting_settleLast 18 = .ok (.iaload, 1) := by decide +kernel
theorem d_Waiting_settleLast_19 : decode b_Waiting_settleLast 19 = .ok (.ifCond .ne 19, 3) := by decide +kernel
theorem d_Waiting_settleLast_22 : decode b_Waiting_settleLast 22 = .ok (.aload_n 0, 1) := by decide +kernel
theorem d_Waiting_settleLast_23 : decode b_Waiting_settleLast 23 = .ok (.aload_n 0, 1) := by decide +kernel
theorem d_Waiting_settleLast_24 : decode b_Waiting_settleLast 24 = .ok (.getfield 9, 3) := by decide +kernel
theorem d_Waiting_settleLast_27 : decode b_Waiting_settleLast 27 = .ok (.aload_n 0, 1) := by decide +kernel
theorem d_Waiting_settleLast_28 : decode b_Waiting_settleLast 28 = .ok (.getfield 36, 3) := by decide +kernel
theorem d_Waiting_settleLast_31 : decode b_Waiting_settleLast 31 = .ok (.iaload, 1) := by decide +kernel
theorem d_Waiting_settleLast_32 : decode b_Waiting_settleLast 32 = .ok (.putfield 43, 3) := by decide +kernel
theorem d_Waiting_settleLast_35 : decode b_Waiting_settleLast 35 = .ok (.ldc 50, 2) := by decide +kernel
theorem d_Waiting_settleLast_37 : decode b_Waiting_settleLast 37 = .ok (.ireturn, 1) := by decide +kernel
theorem d_Waiting_settleLast_38 : decode b_Waiting_settleLast 38 = .ok (.aload_n 0, 1) := by decide +kernel
theorem d_Waiting_settleLast_39 : decode b_Waiting_settleLast 39 = .ok (.getfield 36, 3) := by decide +kernel
theorem d_Waiting_settleLast_42 : decode b_Waiting_settleLast 42 = .ok (.sipush 400, 3) := by decide +kernel
theorem d_Waiting_settleLast_45 : decode b_Waiting_settleLast 45 = .ok (.if_icmp .lt 6, 3) := by decide +kernel
theorem d_Waiting_settleLast_48 : decode b_Waiting_settleLast 48 = .ok (.ldc 51, 2) := by decide +kernel
theorem d_Waiting_settleLast_50 : decode b_Waiting_settleLast 50 = .ok (.ireturn, 1) := by decide +kernel
theorem d_Waiting_settleLast_51 : decode b_Waiting_settleLast 51 = .ok (.aload_n 0, 1) := by decide +kernel
theorem d_Waiting_settleLast_52 : decode b_Waiting_settleLast 52 = .ok (.dup, 1) := by decide +kernel
theorem d_Waiting_settleLast_53 : decode b_Waiting_settleLast 53 = .ok (.getfield 36, 3) := by decide +kernel
theorem d_Waiting_settleLast_56 : decode b_Waiting_settleLast 56 = .ok (.iconst 1, 1) := by decide +kernel
theorem d_Waiting_settleLast_57 : decode b_Waiting_settleLast 57 = .ok (.iadd, 1) := by decide +kernel
theorem d_Waiting_settleLast_58 : decode b_Waiting_settleLast 58 = .ok (.putfield 36, 3) := by decide +kernel
theorem d_Waiting_settleLast_61 : decode b_Waiting_settleLast 61 = .ok (.ldc 50, 2) := by decide +kernel
theorem d_Waiting_settleLast_63 : decode b_Waiting_settleLast 63 = .ok (.ireturn, 1) := by decide +kernel
theorem lk_Waiting_50 : Cond.constant "TurtleWorld$Waiting" 50 (-2147483584) ∈ tw_T := tw_i5 94 (by decide +kernel) (by decide +kernel)
theorem lk_Waiting_51 : Cond.constant "TurtleWorld$Waiting" 51 (-2147483642) ∈ tw_T := tw_i5 95 (by decide +kernel) (by decide +kernel)
theorem d_Waiting_put_0 : decode b_Waiting_put 0 = .ok (.aload_n 0, 1) := by decide +kernel
theorem d_Waiting_put_1 : decode b_Waiting_put 1 = .ok (.getfield 40, 3) := by decide +kernel
theorem d_Waiting_put_4 : decode b_Waiting_put 4 = .ok (.sipush 32000, 3) := by decide +kernel
theorem d_Waiting_put_7 : decode b_Waiting_put 7 = .ok (.if_icmp .ge 23, 3) := by decide +kernel
theorem d_Waiting_put_10 : decode b_Waiting_put 10 = .ok (.aload_n 0, 1) := by decide +kernel
theorem d_Waiting_put_11 : decode b_Waiting_put 11 = .ok (.getfield 33, 3) := by decide +kernel
theorem d_Waiting_put_14 : decode b_Waiting_put 14 = .ok (.aload_n 0, 1) := by decide +kernel
theorem d_Waiting_put_15 : decode b_Waiting_put 15 = .ok (.getfield 40, 3) := by decide +kernel
theorem d_Waiting_put_18 : decode b_Waiting_put 18 = .ok (.iload_n 1, 1) := by decide +kernel
theorem d_Waiting_put_19 : decode b_Waiting_put 19 = .ok (.iastore, 1) := by decide +kernel
theorem d_Waiting_put_20 : decode b_Waiting_put 20 = .ok (.aload_n 0, 1) := by decide +kernel
theorem d_Waiting_put_21 : decode b_Waiting_put 21 = .ok (.dup, 1) := by decide +kernel
theorem d_Waiting_put_22 : decode b_Waiting_put 22 = .ok (.getfield 40, 3) := by decide +kernel
theorem d_Waiting_put_25 : decode b_Waiting_put 25 = .ok (.iconst 1, 1) := by decide +kernel
theorem d_Waiting_put_26 : decode b_Waiting_put 26 = .ok (.iadd, 1) := by decide +kernel
theorem d_Waiting_put_27 : decode b_Waiting_put 27 = .ok (.putfield 40, 3) := by decide +kernel
theorem d_Waiting_put_30 : decode b_Waiting_put 30 = .ok (.return_, 1) := by decide +kernel
theorem lk_Waiting_33 : Cond.fieldLink "TurtleWorld$Waiting" 33 "TurtleWorld$Waiting" "values" "[I" ∈ tw_T := tw_i3 98 (by decide +kernel) (by decide +kernel)
theorem d_Waiting_supply_0 : decode b_Waiting_supply 0 = .ok (.aload_n 0, 1) := by decide +kernel
theorem d_Waiting_supply_1 : decode b_Waiting_supply 1 = .ok (.iload_n 1, 1) := by decide +kernel
theorem d_Waiting_supply_2 : decode b_Waiting_supply 2 = .ok (.invokevirtual 52, 3) := by decide +kernel
theorem d_Waiting_supply_5 : decode b_Waiting_supply 5 = .ok (.aload_n 0, 1) := by decide +kernel
theorem d_Waiting_supply_6 : decode b_Waiting_supply 6 = .ok (.getfield 36, 3) := by decide +kernel
theorem d_Waiting_supply_9 : decode b_Waiting_supply 9 = .ok (.iconst 1, 1) := by decide +kernel
theorem d_Waiting_supply_10 : decode b_Waiting_supply 10 = .ok (.isub, 1) := by decide +kernel
theorem d_Waiting_supply_11 : decode b_Waiting_supply 11 = .ok (.istore_n 2, 1) := by decide +kernel
theorem d_Waiting_supply_12 : decode b_Waiting_supply 12 = .ok (.iload_n 2, 1) := by decide +kernel
theorem d_Waiting_supply_13 : decode b_Waiting_supply 13 = .ok (.ifCond .lt 38, 3) := by decide +kernel
theorem d_Waiting_supply_16 : decode b_Waiting_supply 16 = .ok (.aload_n 0, 1) := by decide +kernel
theorem d_Waiting_supply_17 : decode b_Waiting_supply 17 = .ok (.getfield 40, 3) := by decide +kernel
theorem d_Waiting_supply_20 : decode b_Waiting_supply 20 = .ok (.aload_n 0, 1) := by decide +kernel
theorem d_Waiting_supply_21 : decode b_Waiting_supply 21 = .ok (.getfield 24, 3) := by decide +kernel
theorem d_Waiting_supply_24 : decode b_Waiting_supply 24 = .ok (.iload_n 2, 1) := by decide +kernel
theorem d_Waiting_supply_25 : decode b_Waiting_supply 25 = .ok (.iaload, 1) := by decide +kernel
theorem d_Waiting_supply_26 : decode b_Waiting_supply 26 = .ok (.isub, 1) := by decide +kernel
theorem d_Waiting_supply_27 : decode b_Waiting_supply 27 = .ok (.aload_n 0, 1) := by decide +kernel
theorem d_Waiting_supply_28 : decode b_Waiting_supply 28 = .ok (.getfield 18, 3) := by decide +kernel
theorem d_Waiting_supply_31 : decode b_Waiting_supply 31 = .ok (.iload_n 2, 1) := by decide +kernel
theorem d_Waiting_supply_32 : decode b_Waiting_supply 32 = .ok (.iaload, 1) := by decide +kernel
theorem d_Waiting_supply_33 : decode b_Waiting_supply 33 = .ok (.if_icmp .lt 18, 3) := by decide +kernel
theorem d_Waiting_supply_36 : decode b_Waiting_supply 36 = .ok (.aload_n 0, 1) := by decide +kernel
theorem d_Waiting_supply_37 : decode b_Waiting_supply 37 = .ok (.iload_n 2, 1) := by decide +kernel
theorem d_Waiting_supply_38 : decode b_Waiting_supply 38 = .ok (.putfield 36, 3) := by decide +kernel
theorem d_Waiting_supply_41 : decode b_Waiting_supply 41 = .ok (.aload_n 0, 1) := by decide +kernel
theorem d_Waiting_supply_42 : decode b_Waiting_supply 42 = .ok (.aload_n 0, 1) := by decide +kernel
theorem d_Waiting_supply_43 : decode b_Waiting_supply 43 = .ok (.getfield 9, 3) := by decide +kernel
theorem d_Waiting_supply_46 : decode b_Waiting_supply 46 = .ok (.iload_n 2, 1) := by decide +kernel
theorem d_Waiting_supply_47 : decode b_Waiting_supply 47 = .ok (.iaload, 1) := by decide +kernel
theorem d_Waiting_supply_48 : decode b_Waiting_supply 48 = .ok (.putfield 43, 3) := by decide +kernel
theorem d_Waiting_supply_51 : decode b_Waiting_supply 51 = .ok (.return_, 1) := by decide +kernel
theorem lk_Waiting_52 : Cond.methodLink "TurtleWorld$Waiting" 52 ⟨"TurtleWorld$Waiting", "put", "(I)V"⟩ ∈ tw_T := tw_i5 134 (by decide +kernel) (by decide +kernel)
theorem in_Waiting_put : Cond.instanceMethod ⟨"TurtleWorld$Waiting", "put", "(I)V"⟩ ∈ tw_T := tw_i5 118 (by decide +kernel) (by decide +kernel)
theorem sel_Waiting_put : Cond.selects "TurtleWorld$Waiting" ⟨"TurtleWorld$Waiting", "put", "(I)V"⟩ ⟨"TurtleWorld$Waiting", "put", "(I)V"⟩ ∈ tw_T := tw_i5 119 (by decide +kernel) (by decide +kernel)
theorem d_Waiting_release_0 : decode b_Waiting_release 0 = .ok (.aload_n 0, 1) := by decide +kernel
theorem d_Waiting_release_1 : decode b_Waiting_release 1 = .ok (.aload_n 0, 1) := by decide +kernel
theorem d_Waiting_release_2 : decode b_Waiting_release 2 = .ok (.getfield 40, 3) := by decide +kernel
theorem d_Waiting_release_5 : decode b_Waiting_release 5 = .ok (.iload_n 1, 1) := by decide +kernel
theorem d_Waiting_release_6 : decode b_Waiting_release 6 = .ok (.isub, 1) := by decide +kernel
theorem d_Waiting_release_7 : decode b_Waiting_release 7 = .ok (.iconst 0, 1) := by decide +kernel
theorem d_Waiting_release_8 : decode b_Waiting_release 8 = .ok (.invokestatic 56, 3) := by decide +kernel
theorem d_Waiting_release_11 : decode b_Waiting_release 11 = .ok (.putfield 40, 3) := by decide +kernel
theorem d_Waiting_release_14 : decode b_Waiting_release 14 = .ok (.return_, 1) := by decide +kernel
theorem lk_Waiting_56 : Cond.methodLink "TurtleWorld$Waiting" 56 ⟨"java/lang/Math", "max", "(II)I"⟩ ∈ tw_T := tw_i5 211 (by decide +kernel) (by decide +kernel)
theorem st_Math_max : Cond.static ⟨"java/lang/Math", "max", "(II)I"⟩ ∈ tw_T := tw_i1 111 (by decide +kernel) (by decide +kernel)
theorem d_Waiting_input_0 : decode b_Waiting_input 0 = .ok (.aload_n 0, 1) := by decide +kernel
theorem d_Waiting_input_1 : decode b_Waiting_input 1 = .ok (.getfield 40, 3) := by decide +kernel
theorem d_Waiting_input_4 : decode b_Waiting_input 4 = .ok (.iload_n 1, 1) := by decide +kernel
theorem d_Waiting_input_5 : decode b_Waiting_input 5 = .ok (.iadd, 1) := by decide +kernel
theorem d_Waiting_input_6 : decode b_Waiting_input 6 = .ok (.istore_n 2, 1) := by decide +kernel
theorem d_Waiting_input_7 : decode b_Waiting_input 7 = .ok (.iload_n 2, 1) := by decide +kernel
theorem d_Waiting_input_8 : decode b_Waiting_input 8 = .ok (.ifCond .lt 19, 3) := by decide +kernel
theorem d_Waiting_input_11 : decode b_Waiting_input 11 = .ok (.iload_n 2, 1) := by decide +kernel
theorem d_Waiting_input_12 : decode b_Waiting_input 12 = .ok (.sipush 32000, 3) := by decide +kernel
theorem d_Waiting_input_15 : decode b_Waiting_input 15 = .ok (.if_icmp .ge 12, 3) := by decide +kernel
theorem d_Waiting_input_18 : decode b_Waiting_input 18 = .ok (.aload_n 0, 1) := by decide +kernel
theorem d_Waiting_input_19 : decode b_Waiting_input 19 = .ok (.getfield 33, 3) := by decide +kernel
theorem d_Waiting_input_22 : decode b_Waiting_input 22 = .ok (.iload_n 2, 1) := by decide +kernel
theorem d_Waiting_input_23 : decode b_Waiting_input 23 = .ok (.iaload, 1) := by decide +kernel
theorem d_Waiting_input_24 : decode b_Waiting_input 24 = .ok (.goto 5, 3) := by decide +kernel
theorem d_Waiting_input_27 : decode b_Waiting_input 27 = .ok (.ldc 62, 2) := by decide +kernel
theorem d_Waiting_input_29 : decode b_Waiting_input 29 = .ok (.ireturn, 1) := by decide +kernel
theorem lk_Waiting_62 : Cond.constant "TurtleWorld$Waiting" 62 (-2147483648) ∈ tw_T := tw_i5 225 (by decide +kernel) (by decide +kernel)
theorem d_Names_addLocal_0 : decode b_Names_addLocal 0 = .ok (.aload_n 0, 1) := by decide +kernel
theorem d_Names_addLocal_1 : decode b_Names_addLocal 1 = .ok (.getfield 31, 3) := by decide +kernel
theorem d_Names_addLocal_4 : decode b_Names_addLocal 4 = .ok (.sipush 1800, 3) := by decide +kernel
theorem d_Names_addLocal_7 : decode b_Names_addLocal 7 = .ok (.if_icmp .ge 33, 3) := by decide +kernel
theorem d_Names_addLocal_10 : decode b_Names_addLocal 10 = .ok (.aload_n 0, 1) := by decide +kernel
theorem d_Names_addLocal_11 : decode b_Names_addLocal 11 = .ok (.getfield 18, 3) := by decide +kernel
theorem d_Names_addLocal_14 : decode b_Names_addLocal 14 = .ok (.aload_n 0, 1) := by decide +kernel
theorem d_Names_addLocal_15 : decode b_Names_addLocal 15 = .ok (.getfield 31, 3) := by decide +kernel
theorem d_Names_addLocal_18 : decode b_Names_addLocal 18 = .ok (.iload_n 1, 1) := by decide +kernel
theorem d_Names_addLocal_19 : decode b_Names_addLocal 19 = .ok (.iastore, 1) := by decide +kernel
theorem d_Names_addLocal_20 : decode b_Names_addLocal 20 = .ok (.aload_n 0, 1) := by decide +kernel
theorem d_Names_addLocal_21 : decode b_Names_addLocal 21 = .ok (.getfield 21, 3) := by decide +kernel
theorem d_Names_addLocal_24 : decode b_Names_addLocal 24 = .ok (.aload_n 0, 1) := by decide +kernel
theorem d_Names_addLocal_25 : decode b_Names_addLocal 25 = .ok (.getfield 31, 3) := by decide +kernel
theorem d_Names_addLocal_28 : decode b_Names_addLocal 28 = .ok (.iload_n 2, 1) := by decide +kernel
theorem d_Names_addLocal_29 : decode b_Names_addLocal 29 = .ok (.iastore, 1) := by decide +kernel
theorem d_Names_addLocal_30 : decode b_Names_addLocal 30 = .ok (.aload_n 0, 1) := by decide +kernel
theorem d_Names_addLocal_31 : decode b_Names_addLocal 31 = .ok (.dup, 1) := by decide +kernel
theorem d_Names_addLocal_32 : decode b_Names_addLocal 32 = .ok (.getfield 31, 3) := by decide +kernel
theorem d_Names_addLocal_35 : decode b_Names_addLocal 35 = .ok (.iconst 1, 1) := by decide +kernel
theorem d_Names_addLocal_36 : decode b_Names_addLocal 36 = .ok (.iadd, 1) := by decide +kernel
theorem d_Names_addLocal_37 : decode b_Names_addLocal 37 = .ok (.putfield 31, 3) := by decide +kernel
theorem d_Names_addLocal_40 : decode b_Names_addLocal 40 = .ok (.return_, 1) := by decide +kernel
theorem lk_Names_31 : Cond.fieldLink "TurtleWorld$Names" 31 "TurtleWorld$Names" "locals" "I" ∈ tw_T := tw_i2 15 (by decide +kernel) (by decide +kernel)
theorem lk_Names_18 : Cond.fieldLink "TurtleWorld$Names" 18 "TurtleWorld$Names" "localNames" "[I" ∈ tw_T := tw_i2 13 (by decide +kernel) (by decide +kernel)
theorem lk_Names_21 : Cond.fieldLink "TurtleWorld$Names" 21 "TurtleWorld$Names" "localValues" "[I" ∈ tw_T := tw_i2 14 (by decide +kernel) (by decide +kernel)
theorem d_Names_dropLocals_0 : decode b_Names_dropLocals 0 = .ok (.iload_n 1, 1) := by decide +kernel
theorem d_Names_dropLocals_1 : decode b_Names_dropLocals 1 = .ok (.ifCond .lt 16, 3) := by decide +kernel
theorem d_Names_dropLocals_4 : decode b_Names_dropLocals 4 = .ok (.iload_n 1, 1) := by decide +kernel
theorem d_Names_dropLocals_5 : decode b_Names_dropLocals 5 = .ok (.aload_n 0, 1) := by decide +kernel
theorem d_Names_dropLocals_6 : decode b_Names_dropLocals 6 = .ok (.getfield 31, 3) := by decide +kernel
theorem d_Names_dropLocals_9 : decode b_Names_dropLocals 9 = .ok (.if_icmp .ge 8, 3) := by decide +kernel
theorem d_Names_dropLocals_12 : decode b_Names_dropLocals 12 = .ok (.aload_n 0, 1) := by decide +kernel
theorem d_Names_dropLocals_13 : decode b_Names_dropLocals 13 = .ok (.iload_n 1, 1) := by decide +kernel
theorem d_Names_dropLocals_14 : decode b_Names_dropLocals 14 = .ok (.putfield 31, 3) := by decide +kernel
theorem d_Names_dropLocals_17 : decode b_Names_dropLocals 17 = .ok (.return_, 1) := by decide +kernel
theorem d_Names_globalName_0 : decode b_Names_globalName 0 = .ok (.iload_n 1, 1) := by decide +kernel
theorem d_Names_globalName_1 : decode b_Names_globalName 1 = .ok (.ifCond .lt 20, 3) := by decide +kernel
theorem d_Names_globalName_4 : decode b_Names_globalName 4 = .ok (.iload_n 1, 1) := by decide +kernel
theorem d_Names_globalName_5 : decode b_Names_globalName 5 = .ok (.aload_n 0, 1) := by decide +kernel
theorem d_Names_globalName_6 : decode b_Names_globalName 6 = .ok (.getfield 41, 3) := by decide +kernel
theorem d_Names_globalName_9 : decode b_Names_globalName 9 = .ok (.if_icmp .ge 12, 3) := by decide +kernel
theorem d_Names_globalName_12 : decode b_Names_globalName 12 = .ok (.aload_n 0, 1) := by decide +kernel
theorem d_Names_globalName_13 : decode b_Names_globalName 13 = .ok (.getfield 11, 3) := by decide +kernel
theorem d_Names_globalName_16 : decode b_Names_globalName 16 = .ok (.iload_n 1, 1) := by decide +kernel
theorem d_Names_globalName_17 : decode b_Names_globalName 17 = .ok (.iaload, 1) := by decide +kernel
theorem d_Names_globalName_18 : decode b_Names_globalName 18 = .ok (.goto 5, 3) := by decide +kernel
theorem d_Names_globalName_21 : decode b_Names_globalName 21 = .ok (.ldc 48, 2) := by decide +kernel
theorem d_Names_globalName_23 : decode b_Names_globalName 23 = .ok (.ireturn, 1) := by decide +kernel
theorem lk_Names_48 : Cond.constant "TurtleWorld$Names" 48 (-2147483648) ∈ tw_T := tw_i5 69 (by decide +kernel) (by decide +kernel)
theorem lk_Names_41 : Cond.fieldLink "TurtleWorld$Names" 41 "TurtleWorld$Names" "globals" "I" ∈ tw_T := tw_i2 11 (by decide +kernel) (by decide +kernel)
theorem lk_Names_11 : Cond.fieldLink "TurtleWorld$Names" 11 "TurtleWorld$Names" "globalNames" "[I" ∈ tw_T := tw_i2 9 (by decide +kernel) (by decide +kernel)
theorem d_Names_globalValue_0 : decode b_Names_globalValue 0 = .ok (.iload_n 1, 1) := by decide +kernel
theorem d_Names_globalValue_1 : decode b_Names_globalValue 1 = .ok (.ifCond .lt 20, 3) := by decide +kernel
theorem d_Names_globalValue_4 : decode b_Names_globalValue 4 = .ok (.iload_n 1, 1) := by decide +kernel
theorem d_Names_globalValue_5 : decode b_Names_globalValue 5 = .ok (.aload_n 0, 1) := by decide +kernel
theorem d_Names_globalValue_6 : decode b_Names_globalValue 6 = .ok (.getfield 41, 3) := by decide +kernel
theorem d_Names_globalValue_9 : decode b_Names_globalValue 9 = .ok (.if_icmp .ge 12, 3) := by decide +kernel
theorem d_Names_globalValue_12 : decode b_Names_globalValue 12 = .ok (.aload_n 0, 1) := by decide +kernel
theorem d_Names_globalValue_13 : decode b_Names_globalValue 13 = .ok (.getfield 15, 3) := by decide +kernel
theorem d_Names_globalValue_16 : decode b_Names_globalValue 16 = .ok (.iload_n 1, 1) := by decide +kernel
theorem d_Names_globalValue_17 : decode b_Names_globalValue 17 = .ok (.iaload, 1) := by decide +kernel
theorem d_Names_globalValue_18 : decode b_Names_globalValue 18 = .ok (.goto 5, 3) := by decide +kernel
theorem d_Names_globalValue_21 : decode b_Names_globalValue 21 = .ok (.ldc 48, 2) := by decide +kernel
theorem d_Names_globalValue_23 : decode b_Names_globalValue 23 = .ok (.ireturn, 1) := by decide +kernel
theorem lk_Names_15 : Cond.fieldLink "TurtleWorld$Names" 15 "TurtleWorld$Names" "globalValues" "[I" ∈ tw_T := tw_i2 10 (by decide +kernel) (by decide +kernel)
theorem d_Names_keep_0 : decode b_Names_keep 0 = .ok (.aload_n 0, 1) := by decide +kernel
theorem d_Names_keep_1 : decode b_Names_keep 1 = .ok (.aload_n 0, 1) := by decide +kernel
theorem d_Names_keep_2 : decode b_Names_keep 2 = .ok (.getfield 41, 3) := by decide +kernel
theorem d_Names_keep_5 : decode b_Names_keep 5 = .ok (.putfield 66, 3) := by decide +kernel
theorem d_Names_keep_8 : decode b_Names_keep 8 = .ok (.aload_n 0, 1) := by decide +kernel
theorem d_Names_keep_9 : decode b_Names_keep 9 = .ok (.getfield 15, 3) := by decide +kernel
theorem d_Names_keep_12 : decode b_Names_keep 12 = .ok (.iconst 0, 1) := by decide +kernel
theorem d_Names_keep_13 : decode b_Names_keep 13 = .ok (.aload_n 0, 1) := by decide +kernel
theorem d_Names_keep_14 : decode b_Names_keep 14 = .ok (.getfield 24, 3) := by decide +kernel
theorem d_Names_keep_17 : decode b_Names_keep 17 = .ok (.iconst 0, 1) := by decide +kernel
theorem d_Names_keep_18 : decode b_Names_keep 18 = .ok (.bipush 64, 2) := by decide +kernel
theorem d_Names_keep_20 : decode b_Names_keep 20 = .ok (.invokestatic 69, 3) := by decide +kernel
theorem d_Names_keep_23 : decode b_Names_keep 23 = .ok (.return_, 1) := by decide +kernel
theorem lk_Names_66 : Cond.fieldLink "TurtleWorld$Names" 66 "TurtleWorld$Names" "keptGlobals" "I" ∈ tw_T := tw_i2 20 (by decide +kernel) (by decide +kernel)
theorem lk_Names_24 : Cond.fieldLink "TurtleWorld$Names" 24 "TurtleWorld$Names" "keptValues" "[I" ∈ tw_T := tw_i2 19 (by decide +kernel) (by decide +kernel)
theorem lk_Names_69 : Cond.methodLink "TurtleWorld$Names" 69 ⟨"java/lang/System", "arraycopy", "(Ljava/lang/Object;ILjava/lang/Object;II)V"⟩ ∈ tw_T := tw_i4 224 (by decide +kernel) (by decide +kernel)
theorem d_Names_takeBack_0 : decode b_Names_takeBack 0 = .ok (.aload_n 0, 1) := by decide +kernel
theorem d_Names_takeBack_1 : decode b_Names_takeBack 1 = .ok (.aload_n 0, 1) := by decide +kernel
theorem d_Names_takeBack_2 : decode b_Names_takeBack 2 = .ok (.getfield 66, 3) := by decide +kernel
theorem d_Names_takeBack_5 : decode b_Names_takeBack 5 = .ok (.putfield 41, 3) := by decide +kernel
theorem d_Names_takeBack_8 : decode b_Names_takeBack 8 = .ok (.aload_n 0, 1) := by decide +kernel
theorem d_Names_takeBack_9 : decode b_Names_takeBack 9 = .ok (.getfield 24, 3) := by decide +kernel
theorem d_Names_takeBack_12 : decode b_Names_takeBack 12 = .ok (.iconst 0, 1) := by decide +kernel
theorem d_Names_takeBack_13 : decode b_Names_takeBack 13 = .ok (.aload_n 0, 1) := by decide +kernel
theorem d_Names_takeBack_14 : decode b_Names_takeBack 14 = .ok (.getfield 15, 3) := by decide +kernel
theorem d_Names_takeBack_17 : decode b_Names_takeBack 17 = .ok (.iconst 0, 1) := by decide +kernel
theorem d_Names_takeBack_18 : decode b_Names_takeBack 18 = .ok (.bipush 64, 2) := by decide +kernel
theorem d_Names_takeBack_20 : decode b_Names_takeBack 20 = .ok (.invokestatic 69, 3) := by decide +kernel
theorem d_Names_takeBack_23 : decode b_Names_takeBack 23 = .ok (.return_, 1) := by decide +kernel
theorem d_Procedures_keep_0 : decode b_Procedures_keep 0 = .ok (.aload_n 0, 1) := by decide +kernel
theorem d_Procedures_keep_1 : decode b_Procedures_keep 1 = .ok (.aload_n 0, 1) := by decide +kernel
theorem d_Procedures_keep_2 : decode b_Procedures_keep 2 = .ok (.getfield 31, 3) := by decide +kernel
theorem d_Procedures_keep_5 : decode b_Procedures_keep 5 = .ok (.putfield 48, 3) := by decide +kernel
theorem d_Procedures_keep_8 : decode b_Procedures_keep 8 = .ok (.aload_n 0, 1) := by decide +kernel
theorem d_Procedures_keep_9 : decode b_Procedures_keep 9 = .ok (.getfield 15, 3) := by decide +kernel
theorem d_Procedures_keep_12 : decode b_Procedures_keep 12 = .ok (.iconst 0, 1) := by decide +kernel
theorem d_Procedures_keep_13 : decode b_Procedures_keep 13 = .ok (.aload_n 0, 1) := by decide +kernel
theorem d_Procedures_keep_14 : decode b_Procedures_keep 14 = .ok (.getfield 21, 3) := by decide +kernel
theorem d_Procedures_keep_17 : decode b_Procedures_keep 17 = .ok (.iconst 0, 1) := by decide +kernel
theorem d_Procedures_keep_18 : decode b_Procedures_keep 18 = .ok (.bipush 40, 2) := by decide +kernel
theorem d_Procedures_keep_20 : decode b_Procedures_keep 20 = .ok (.invokestatic 51, 3) := by decide +kernel
theorem d_Procedures_keep_23 : decode b_Procedures_keep 23 = .ok (.aload_n 0, 1) := by decide +kernel
theorem d_Procedures_keep_24 : decode b_Procedures_keep 24 = .ok (.getfield 18, 3) := by decide +kernel
theorem d_Procedures_keep_27 : decode b_Procedures_keep 27 = .ok (.iconst 0, 1) := by decide +kernel
theorem d_Procedures_keep_28 : decode b_Procedures_keep 28 = .ok (.aload_n 0, 1) := by decide +kernel
theorem d_Procedures_keep_29 : decode b_Procedures_keep 29 = .ok (.getfield 24, 3) := by decide +kernel
theorem d_Procedures_keep_32 : decode b_Procedures_keep 32 = .ok (.iconst 0, 1) := by decide +kernel
theorem d_Procedures_keep_33 : decode b_Procedures_keep 33 = .ok (.bipush 40, 2) := by decide +kernel
theorem d_Procedures_keep_35 : decode b_Procedures_keep 35 = .ok (.invokestatic 51, 3) := by decide +kernel
theorem d_Procedures_keep_38 : decode b_Procedures_keep 38 = .ok (.return_, 1) := by decide +kernel
theorem lk_Procedures_31 : Cond.fieldLink "TurtleWorld$Procedures" 31 "TurtleWorld$Procedures" "count" "I" ∈ tw_T := tw_i2 57 (by decide +kernel) (by decide +kernel)
theorem lk_Procedures_48 : Cond.fieldLink "TurtleWorld$Procedures" 48 "TurtleWorld$Procedures" "keptCount" "I" ∈ tw_T := tw_i2 62 (by decide +kernel) (by decide +kernel)
theorem lk_Procedures_15 : Cond.fieldLink "TurtleWorld$Procedures" 15 "TurtleWorld$Procedures" "inputs" "[I" ∈ tw_T := tw_i2 49 (by decide +kernel) (by decide +kernel)
theorem lk_Procedures_21 : Cond.fieldLink "TurtleWorld$Procedures" 21 "TurtleWorld$Procedures" "keptInputs" "[I" ∈ tw_T := tw_i2 60 (by decide +kernel) (by decide +kernel)
theorem lk_Procedures_51 : Cond.methodLink "TurtleWorld$Procedures" 51 ⟨"java/lang/System", "arraycopy", "(Ljava/lang/Object;ILjava/lang/Object;II)V"⟩ ∈ tw_T := tw_i4 229 (by decide +kernel) (by decide +kernel)
theorem lk_Procedures_18 : Cond.fieldLink "TurtleWorld$Procedures" 18 "TurtleWorld$Procedures" "bodies" "[I" ∈ tw_T := tw_i2 53 (by decide +kernel) (by decide +kernel)
theorem lk_Procedures_24 : Cond.fieldLink "TurtleWorld$Procedures" 24 "TurtleWorld$Procedures" "keptBodies" "[I" ∈ tw_T := tw_i2 61 (by decide +kernel) (by decide +kernel)
theorem d_Procedures_takeBack_0 : decode b_Procedures_takeBack 0 = .ok (.aload_n 0, 1) := by decide +kernel
theorem d_Procedures_takeBack_1 : decode b_Procedures_takeBack 1 = .ok (.aload_n 0, 1) := by decide +kernel
theorem d_Procedures_takeBack_2 : decode b_Procedures_takeBack 2 = .ok (.getfield 48, 3) := by decide +kernel
theorem d_Procedures_takeBack_5 : decode b_Procedures_takeBack 5 = .ok (.putfield 31, 3) := by decide +kernel
theorem d_Procedures_takeBack_8 : decode b_Procedures_takeBack 8 = .ok (.aload_n 0, 1) := by decide +kernel
theorem d_Procedures_takeBack_9 : decode b_Procedures_takeBack 9 = .ok (.getfield 21, 3) := by decide +kernel
theorem d_Procedures_takeBack_12 : decode b_Procedures_takeBack 12 = .ok (.iconst 0, 1) := by decide +kernel
theorem d_Procedures_takeBack_13 : decode b_Procedures_takeBack 13 = .ok (.aload_n 0, 1) := by decide +kernel
theorem d_Procedures_takeBack_14 : decode b_Procedures_takeBack 14 = .ok (.getfield 15, 3) := by decide +kernel
theorem d_Procedures_takeBack_17 : decode b_Procedures_takeBack 17 = .ok (.iconst 0, 1) := by decide +kernel
theorem d_Procedures_takeBack_18 : decode b_Procedures_takeBack 18 = .ok (.bipush 40, 2) := by decide +kernel
theorem d_Procedures_takeBack_20 : decode b_Procedures_takeBack 20 = .ok (.invokestatic 51, 3) := by decide +kernel
theorem d_Procedures_takeBack_23 : decode b_Procedures_takeBack 23 = .ok (.aload_n 0, 1) := by decide +kernel
theorem d_Procedures_takeBack_24 : decode b_Procedures_takeBack 24 = .ok (.getfield 24, 3) := by decide +kernel
theorem d_Procedures_takeBack_27 : decode b_Procedures_takeBack 27 = .ok (.iconst 0, 1) := by decide +kernel
theorem d_Procedures_takeBack_28 : decode b_Procedures_takeBack 28 = .ok (.aload_n 0, 1) := by decide +kernel
theorem d_Procedures_takeBack_29 : decode b_Procedures_takeBack 29 = .ok (.getfield 18, 3) := by decide +kernel
theorem d_Procedures_takeBack_32 : decode b_Procedures_takeBack 32 = .ok (.iconst 0, 1) := by decide +kernel
theorem d_Procedures_takeBack_33 : decode b_Procedures_takeBack 33 = .ok (.bipush 40, 2) := by decide +kernel
theorem d_Procedures_takeBack_35 : decode b_Procedures_takeBack 35 = .ok (.invokestatic 51, 3) := by decide +kernel
theorem d_Procedures_takeBack_38 : decode b_Procedures_takeBack 38 = .ok (.return_, 1) := by decide +kernel
theorem d_Output_begin_0 : decode b_Output_begin 0 = .ok (.aload_n 0, 1) := by decide +kernel
theorem d_Output_begin_1 : decode b_Output_begin 1 = .ok (.iconst 0, 1) := by decide +kernel
theorem d_Output_begin_2 : decode b_Output_begin 2 = .ok (.putfield 31, 3) := by decide +kernel
theorem d_Output_begin_5 : decode b_Output_begin 5 = .ok (.return_, 1) := by decide +kernel
theorem lk_Output_31 : Cond.fieldLink "TurtleWorld$Output" 31 "TurtleWorld$Output" "length" "I" ∈ tw_T := tw_i2 130 (by decide +kernel) (by decide +kernel)
theorem d_Output_add_0 : decode b_Output_add 0 = .ok (.aload_n 0, 1) := by decide +kernel
theorem d_Output_add_1 : decode b_Output_add 1 = .ok (.getfield 31, 3) := by decide +kernel
theorem d_Output_add_4 : decode b_Output_add 4 = .ok (.sipush 8192, 3) := by decide +kernel
theorem d_Output_add_7 : decode b_Output_add 7 = .ok (.if_icmp .ge 23, 3) := by decide +kernel
theorem d_Output_add_10 : decode b_Output_add 10 = .ok (.aload_n 0, 1) := by decide +kernel
theorem d_Output_add_11 : decode b_Output_add 11 = .ok (.getfield 18, 3) := by decide +kernel
theorem d_Output_add_14 : decode b_Output_add 14 = .ok (.aload_n 0, 1) := by decide +kernel
theorem d_Output_add_15 : decode b_Output_add 15 = .ok (.getfield 31, 3) := by decide +kernel
theorem d_Output_add_18 : decode b_Output_add 18 = .ok (.iload_n 1, 1) := by decide +kernel
theorem d_Output_add_19 : decode b_Output_add 19 = .ok (.iastore, 1) := by decide +kernel
theorem d_Output_add_20 : decode b_Output_add 20 = .ok (.aload_n 0, 1) := by decide +kernel
theorem d_Output_add_21 : decode b_Output_add 21 = .ok (.dup, 1) := by decide +kernel
theorem d_Output_add_22 : decode b_Output_add 22 = .ok (.getfield 31, 3) := by decide +kernel
theorem d_Output_add_25 : decode b_Output_add 25 = .ok (.iconst 1, 1) := by decide +kernel
theorem d_Output_add_26 : decode b_Output_add 26 = .ok (.iadd, 1) := by decide +kernel
theorem d_Output_add_27 : decode b_Output_add 27 = .ok (.putfield 31, 3) := by decide +kernel
theorem d_Output_add_30 : decode b_Output_add 30 = .ok (.return_, 1) := by decide +kernel
theorem lk_Output_18 : Cond.fieldLink "TurtleWorld$Output" 18 "TurtleWorld$Output" "text" "[I" ∈ tw_T := tw_i2 128 (by decide +kernel) (by decide +kernel)
theorem d_Output_signAt_0 : decode b_Output_signAt 0 = .ok (.iload_n 1, 1) := by decide +kernel
theorem d_Output_signAt_1 : decode b_Output_signAt 1 = .ok (.ifCond .lt 20, 3) := by decide +kernel
theorem d_Output_signAt_4 : decode b_Output_signAt 4 = .ok (.iload_n 1, 1) := by decide +kernel
theorem d_Output_signAt_5 : decode b_Output_signAt 5 = .ok (.aload_n 0, 1) := by decide +kernel
theorem d_Output_signAt_6 : decode b_Output_signAt 6 = .ok (.getfield 31, 3) := by decide +kernel
theorem d_Output_signAt_9 : decode b_Output_signAt 9 = .ok (.if_icmp .ge 12, 3) := by decide +kernel
theorem d_Output_signAt_12 : decode b_Output_signAt 12 = .ok (.aload_n 0, 1) := by decide +kernel
theorem d_Output_signAt_13 : decode b_Output_signAt 13 = .ok (.getfield 18, 3) := by decide +kernel
theorem d_Output_signAt_16 : decode b_Output_signAt 16 = .ok (.iload_n 1, 1) := by decide +kernel
theorem d_Output_signAt_17 : decode b_Output_signAt 17 = .ok (.iaload, 1) := by decide +kernel
theorem d_Output_signAt_18 : decode b_Output_signAt 18 = .ok (.goto 4, 3) := by decide +kernel
theorem d_Output_signAt_21 : decode b_Output_signAt 21 = .ok (.iconst (-1), 1) := by decide +kernel
theorem d_Output_signAt_22 : decode b_Output_signAt 22 = .ok (.ireturn, 1) := by decide +kernel
theorem d_Output_keep_0 : decode b_Output_keep 0 = .ok (.aload_n 0, 1) := by decide +kernel
theorem d_Output_keep_1 : decode b_Output_keep 1 = .ok (.getfield 11, 3) := by decide +kernel
theorem d_Output_keep_4 : decode b_Output_keep 4 = .ok (.iconst 0, 1) := by decide +kernel
theorem d_Output_keep_5 : decode b_Output_keep 5 = .ok (.aload_n 0, 1) := by decide +kernel
theorem d_Output_keep_6 : decode b_Output_keep 6 = .ok (.getfield 15, 3) := by decide +kernel
theorem d_Output_keep_9 : decode b_Output_keep 9 = .ok (.iconst 0, 1) := by decide +kernel
theorem d_Output_keep_10 : decode b_Output_keep 10 = .ok (.sipush 2000, 3) := by decide +kernel
theorem d_Output_keep_13 : decode b_Output_keep 13 = .ok (.invokestatic 75, 3) := by decide +kernel
theorem d_Output_keep_16 : decode b_Output_keep 16 = .ok (.aload_n 0, 1) := by decide +kernel
theorem d_Output_keep_17 : decode b_Output_keep 17 = .ok (.aload_n 0, 1) := by decide +kernel
theorem d_Output_keep_18 : decode b_Output_keep 18 = .ok (.getfield 61, 3) := by decide +kernel
theorem d_Output_keep_21 : decode b_Output_keep 21 = .ok (.putfield 81, 3) := by decide +kernel
theorem d_Output_keep_24 : decode b_Output_keep 24 = .ok (.aload_n 0, 1) := by decide +kernel
theorem d_Output_keep_25 : decode b_Output_keep 25 = .ok (.aload_n 0, 1) := by decide +kernel
theorem d_Output_keep_26 : decode b_Output_keep 26 = .ok (.getfield 64, 3) := by decide +kernel
theorem d_Output_keep_29 : decode b_Output_keep 29 = .ok (.putfield 84, 3) := by decide +kernel
theorem d_Output_keep_32 : decode b_Output_keep 32 = .ok (.return_, 1) := by decide +kernel
theorem lk_Output_11 : Cond.fieldLink "TurtleWorld$Output" 11 "TurtleWorld$Output" "signs" "[I" ∈ tw_T := tw_i2 121 (by decide +kernel) (by decide +kernel)
theorem lk_Output_15 : Cond.fieldLink "TurtleWorld$Output" 15 "TurtleWorld$Output" "keptSigns" "[I" ∈ tw_T := tw_i2 125 (by decide +kernel) (by decide +kernel)
theorem lk_Output_75 : Cond.methodLink "TurtleWorld$Output" 75 ⟨"java/lang/System", "arraycopy", "(Ljava/lang/Object;ILjava/lang/Object;II)V"⟩ ∈ tw_T := tw_i4 239 (by decide +kernel) (by decide +kernel)
theorem lk_Output_61 : Cond.fieldLink "TurtleWorld$Output" 61 "TurtleWorld$Output" "next" "I" ∈ tw_T := tw_i2 122 (by decide +kernel) (by decide +kernel)
theorem lk_Output_81 : Cond.fieldLink "TurtleWorld$Output" 81 "TurtleWorld$Output" "keptNext" "I" ∈ tw_T := tw_i2 126 (by decide +kernel) (by decide +kernel)
theorem lk_Output_64 : Cond.fieldLink "TurtleWorld$Output" 64 "TurtleWorld$Output" "kept" "I" ∈ tw_T := tw_i2 123 (by decide +kernel) (by decide +kernel)
theorem lk_Output_84 : Cond.fieldLink "TurtleWorld$Output" 84 "TurtleWorld$Output" "keptKept" "I" ∈ tw_T := tw_i2 127 (by decide +kernel) (by decide +kernel)
theorem d_Output_takeBack_0 : decode b_Output_takeBack 0 = .ok (.aload_n 0, 1) := by decide +kernel
theorem d_Output_takeBack_1 : decode b_Output_takeBack 1 = .ok (.getfield 15, 3) := by decide +kernel
theorem d_Output_takeBack_4 : decode b_Output_takeBack 4 = .ok (.iconst 0, 1) := by decide +kernel
theorem d_Output_takeBack_5 : decode b_Output_takeBack 5 = .ok (.aload_n 0, 1) := by decide +kernel
theorem d_Output_takeBack_6 : decode b_Output_takeBack 6 = .ok (.getfield 11, 3) := by decide +kernel
theorem d_Output_takeBack_9 : decode b_Output_takeBack 9 = .ok (.iconst 0, 1) := by decide +kernel
theorem d_Output_takeBack_10 : decode b_Output_takeBack 10 = .ok (.sipush 2000, 3) := by decide +kernel
theorem d_Output_takeBack_13 : decode b_Output_takeBack 13 = .ok (.invokestatic 75, 3) := by decide +kernel
theorem d_Output_takeBack_16 : decode b_Output_takeBack 16 = .ok (.aload_n 0, 1) := by decide +kernel
theorem d_Output_takeBack_17 : decode b_Output_takeBack 17 = .ok (.aload_n 0, 1) := by decide +kernel
theorem d_Output_takeBack_18 : decode b_Output_takeBack 18 = .ok (.getfield 81, 3) := by decide +kernel
theorem d_Output_takeBack_21 : decode b_Output_takeBack 21 = .ok (.putfield 61, 3) := by decide +kernel
theorem d_Output_takeBack_24 : decode b_Output_takeBack 24 = .ok (.aload_n 0, 1) := by decide +kernel
theorem d_Output_takeBack_25 : decode b_Output_takeBack 25 = .ok (.aload_n 0, 1) := by decide +kernel
theorem d_Output_takeBack_26 : decode b_Output_takeBack 26 = .ok (.getfield 84, 3) := by decide +kernel
theorem d_Output_takeBack_29 : decode b_Output_takeBack 29 = .ok (.putfield 64, 3) := by decide +kernel
theorem d_Output_takeBack_32 : decode b_Output_takeBack 32 = .ok (.return_, 1) := by decide +kernel
theorem d_Line_begin_0 : decode b_Line_begin 0 = .ok (.aload_n 0, 1) := by decide +kernel
theorem d_Line_begin_1 : decode b_Line_begin 1 = .ok (.iconst 1, 1) := by decide +kernel
theorem d_Line_begin_2 : decode b_Line_begin 2 = .ok (.putfield 46, 3) := by decide +kernel
theorem d_Line_begin_5 : decode b_Line_begin 5 = .ok (.aload_n 0, 1) := by decide +kernel
theorem d_Line_begin_6 : decode b_Line_begin 6 = .ok (.iconst 0, 1) := by decide +kernel
theorem d_Line_begin_7 : decode b_Line_begin 7 = .ok (.putfield 50, 3) := by decide +kernel
theorem d_Line_begin_10 : decode b_Line_begin 10 = .ok (.aload_n 0, 1) := by decide +kernel
theorem d_Line_begin_11 : decode b_Line_begin 11 = .ok (.iconst 0, 1) := by decide +kernel
theorem d_Line_begin_12 : decode b_Line_begin 12 = .ok (.putfield 53, 3) := by decide +kernel
theorem d_Line_begin_15 : decode b_Line_begin 15 = .ok (.aload_n 0, 1) := by decide +kernel
theorem d_Line_begin_16 : decode b_Line_begin 16 = .ok (.iconst 0, 1) := by decide +kernel
theorem d_Line_begin_17 : decode b_Line_begin 17 = .ok (.putfield 56, 3) := by decide +kernel
theorem d_Line_begin_20 : decode b_Line_begin 20 = .ok (.aload_n 0, 1) := by decide +kernel
theorem d_Line_begin_21 : decode b_Line_begin 21 = .ok (.iconst 0, 1) := by decide +kernel
theorem d_Line_begin_22 : decode b_Line_begin 22 = .ok (.putfield 59, 3) := by decide +kernel
theorem d_Line_begin_25 : decode b_Line_begin 25 = .ok (.aload_n 0, 1) := by decide +kernel
theorem d_Line_begin_26 : decode b_Line_begin 26 = .ok (.iconst 0, 1) := by decide +kernel
theorem d_Line_begin_27 : decode b_Line_begin 27 = .ok (.putfield 62, 3) := by decide +kernel
theorem d_Line_begin_30 : decode b_Line_begin 30 = .ok (.aload_n 0, 1) := by decide +kernel
theorem d_Line_begin_31 : decode b_Line_begin 31 = .ok (.iconst 0, 1) := by decide +kernel
theorem d_Line_begin_32 : decode b_Line_begin 32 = .ok (.putfield 65, 3) := by decide +kernel
theorem d_Line_begin_35 : decode b_Line_begin 35 = .ok (.return_, 1) := by decide +kernel
theorem lk_Line_46 : Cond.fieldLink "TurtleWorld$Line" 46 "TurtleWorld$Line" "state" "I" ∈ tw_T := tw_i2 234 (by decide +kernel) (by decide +kernel)
theorem lk_Line_50 : Cond.fieldLink "TurtleWorld$Line" 50 "TurtleWorld$Line" "error" "I" ∈ tw_T := tw_i2 237 (by decide +kernel) (by decide +kernel)
theorem lk_Line_53 : Cond.fieldLink "TurtleWorld$Line" 53 "TurtleWorld$Line" "done" "I" ∈ tw_T := tw_i3 0 (by decide +kernel) (by decide +kernel)
theorem lk_Line_56 : Cond.fieldLink "TurtleWorld$Line" 56 "TurtleWorld$Line" "made" "I" ∈ tw_T := tw_i3 3 (by decide +kernel) (by decide +kernel)
theorem lk_Line_59 : Cond.fieldLink "TurtleWorld$Line" 59 "TurtleWorld$Line" "caught" "I" ∈ tw_T := tw_i3 7 (by decide +kernel) (by decide +kernel)
theorem lk_Line_62 : Cond.fieldLink "TurtleWorld$Line" 62 "TurtleWorld$Line" "depth" "I" ∈ tw_T := tw_i3 10 (by decide +kernel) (by decide +kernel)
theorem lk_Line_65 : Cond.fieldLink "TurtleWorld$Line" 65 "TurtleWorld$Line" "calls" "I" ∈ tw_T := tw_i3 13 (by decide +kernel) (by decide +kernel)
theorem i32_sub {a b : Int32} (h1 : -2147483648 ≤ a.toInt - b.toInt) (h2 : a.toInt - b.toInt < 2147483648) : (a - b).toInt = a.toInt - b.toInt := by
  rw [Int32.toInt_sub]; exact Int.bmod_eq_of_le (by omega) (by omega)
theorem i32_add {a b : Int32} (h1 : -2147483648 ≤ a.toInt + b.toInt) (h2 : a.toInt + b.toInt < 2147483648) : (a + b).toInt = a.toInt + b.toInt := by
  rw [Int32.toInt_add]; exact Int.bmod_eq_of_le (by omega) (by omega)
theorem i32_mul {a b : Int32} (h1 : -2147483648 ≤ a.toInt * b.toInt) (h2 : a.toInt * b.toInt < 2147483648) : (a * b).toInt = a.toInt * b.toInt := by
  rw [Int32.toInt_mul]; exact Int.bmod_eq_of_le (by omega) (by omega)
theorem q_last_in {x : Int32} (h0 : ¬ x < 0) (h1 : x ≤ 400) (h2 : ¬ x - 1 < 0) : vp_in (x - 1) 401 := by
  simp only [Int32.lt_iff_toInt_lt, Int32.le_iff_toInt_le, Int32.reduceToInt] at h0 h1
  have e : (x - 1).toInt = x.toInt - (1 : Int32).toInt := i32_sub (by simp only [Int32.reduceToInt]; omega) (by simp only [Int32.reduceToInt]; omega)
  rw [vp_in_iff, e]
  rw [Int32.lt_iff_toInt_lt, e] at h2
  simp only [Int32.reduceToInt] at h2 ⊢
  omega

def m_Waiting_begin_w0_7  : Int32 := 0
def m_Waiting_begin_w0_9  : Int32 := 0
def m_Waiting_begin_w0_10  : Int32 := 0
set_option maxHeartbeats 4000000 in
set_option maxRecDepth 100000 in
theorem c_Waiting_begin (l : Launch) (dC : Nat → ClassId) (dI : Nat → Nat → Nat) (sz : Nat) (h0 : Nat) (q_kind : Nat) (q_code : Nat) (q_need : Nat) (q_strength : Nat) (q_base : Nat) (q_inputs : Nat) (q_body : Nat) (q_count : Int32) (q_values : Nat) (q_height : Int32) (q_ready : Int32) (cI : ClassId)  : Met l y_Waiting_begin w_Waiting_begin ({ frames := 0, cells := 0, slots := 0, locals := 0 }) (va_Pc [.ref h0] (fun U => U.heap.size = sz ∧ va_P (dC, dI) classes [(h0, .inr (9, [.ref q_kind, .ref q_code, .ref q_need, .ref q_strength, .ref q_base, .ref q_inputs, .ref q_body, .int q_count, .ref q_values, .int q_height, .int q_ready]))] U.heap ∧ va_K (dC, dI) classes [(cI, .int)] U ∧ va_D (fun _ => True) [(h0, .inr (9, [.ref q_kind, .ref q_code, .ref q_need, .ref q_strength, .ref q_base, .ref q_inputs, .ref q_body, .int q_count, .ref q_values, .int q_height, .int q_ready]))])) (va_Qv (fun (_ : Unit) => True) (fun (_ : Unit) t => va_P (dC, dI) classes [(h0, .inr (9, [.ref q_kind, .ref q_code, .ref q_need, .ref q_strength, .ref q_base, .ref q_inputs, .ref q_body, .int m_Waiting_begin_w0_7, .ref q_values, .int m_Waiting_begin_w0_9, .int m_Waiting_begin_w0_10]))] t.heap ∧ va_K (dC, dI) classes [(cI, .int)] t ∧ va_D (va_A [(h0, .inr (9, [.ref q_kind, .ref q_code, .ref q_need, .ref q_strength, .ref q_base, .ref q_inputs, .ref q_body, .int q_count, .ref q_values, .int q_height, .int q_ready]))] sz) [(h0, .inr (9, [.ref q_kind, .ref q_code, .ref q_need, .ref q_strength, .ref q_base, .ref q_inputs, .ref q_body, .int m_Waiting_begin_w0_7, .ref q_values, .int m_Waiting_begin_w0_9, .int m_Waiting_begin_w0_10]))]) (va_A [(h0, .inr (9, [.ref q_kind, .ref q_code, .ref q_need, .ref q_strength, .ref q_base, .ref q_inputs, .ref q_body, .int q_count, .ref q_values, .int q_height, .int q_ready]))] sz)) 0 0 (va_A [(h0, .inr (9, [.ref q_kind, .ref q_code, .ref q_need, .ref q_strength, .ref q_base, .ref q_inputs, .ref q_body, .int q_count, .ref q_values, .int q_height, .int q_ready]))] sz) := by
  refine Met.ofW (cc := b_Waiting_begin) (maxL := 1) (ret := none) (by decide) rfl ?_
  intro p e s m args below meth c s₁ B hml hv
  obtain ⟨rfl, hsz, hP, hK, hD0⟩ := hv
  have hx := B.exec
  have hb := B.bytes
  have hr := B.returns
  have hts := atoms_spec (ws := w_Waiting_begin) B.pre
  have htt : ∀ w ∈ tw_T, w.before _ s = true := fun w h => hts w (List.mem_cons_of_mem _ h)
  have hown : s.vm.findClass R_Waiting = some m.cls := findClass_of_methodNamed B.named
  have hlocks := B.notSynchronized
  subst hsz
  have hD := hD0.self (sz := s.heap.size)
  generalize hAe : va_A [(h0, .inr (9, [.ref q_kind, .ref q_code, .ref q_need, .ref q_strength, .ref q_base, .ref q_inputs, .ref q_body, .int q_count, .ref q_values, .int q_height, .int q_ready]))] s.heap.size = A at hD ⊢
  have hA : ∀ q : Nat, s.heap.size ≤ q → A q := fun q h => by rw [← hAe]; exact Or.inr h
  have hS : va_S A s.heap s.heap [] := va_S.rf
  have hP : va_P (dC, dI) classes [(h0, .inr (9, [.ref q_kind, .ref q_code, .ref q_need, .ref q_strength, .ref q_base, .ref q_inputs, .ref q_body, .int q_count, .ref q_values, .int q_height, .int q_ready]))] s.heap := hP
  have hl := lv_entry ([.ref h0]) (n := 1) (Nat.le_of_ble_eq_true rfl)
  rw [lg_entry_eq]
  generalize (lg_sl ([.ref h0]) ++ List.replicate (1 - (lg_sl ([.ref h0])).length) Slot.unset).toArray = ls at hl ⊢
  have hl : lv_has ls 1 [(0, .ref h0)] := hl
  refine lv_aload_n hx hb d_Waiting_begin_0 rfl (lv_at hl 0 rfl) ?_
  refine lv_iconst (v := 0) hx hb d_Waiting_begin_1 (by decide) ?_
  refine va_put (D := (dC, dI)) (ci := 9) (v := .int 0) (ty := .int) (C := R_Waiting) (T := F_Waiting) (N := 11) hx hb htt iw_Waiting t_Waiting t_Waiting_ok n_Waiting hown hK hP hD hS 0 rfl rfl 7 (by decide) (htt _ lk_Waiting_36) (fun _ h9 => h9) rfl (by decide +kernel) rfl rfl (Nat.le_of_ble_eq_true rfl) d_Waiting_begin_2 (fun H locs hP hD hS => ?_)
  have hP : va_P (dC, dI) classes [(h0, .inr (9, [.ref q_kind, .ref q_code, .ref q_need, .ref q_strength, .ref q_base, .ref q_inputs, .ref q_body, .int 0, .ref q_values, .int q_height, .int q_ready]))] H := hP
  have hD : va_D A [(h0, .inr (9, [.ref q_kind, .ref q_code, .ref q_need, .ref q_strength, .ref q_base, .ref q_inputs, .ref q_body, .int 0, .ref q_values, .int q_height, .int q_ready]))] := hD
  refine lv_aload_n hx hb d_Waiting_begin_5 rfl (lv_at hl 0 rfl) ?_
  refine lv_iconst (v := 0) hx hb d_Waiting_begin_6 (by decide) ?_
  refine va_put (D := (dC, dI)) (ci := 9) (v := .int 0) (ty := .int) (C := R_Waiting) (T := F_Waiting) (N := 11) hx hb htt iw_Waiting t_Waiting t_Waiting_ok n_Waiting hown hK hP hD hS 0 rfl rfl 9 (by decide) (htt _ lk_Waiting_40) (fun _ h9 => h9) rfl (by decide +kernel) rfl rfl (Nat.le_of_ble_eq_true rfl) d_Waiting_begin_7 (fun H locs hP hD hS => ?_)
  have hP : va_P (dC, dI) classes [(h0, .inr (9, [.ref q_kind, .ref q_code, .ref q_need, .ref q_strength, .ref q_base, .ref q_inputs, .ref q_body, .int 0, .ref q_values, .int 0, .int q_ready]))] H := hP
  have hD : va_D A [(h0, .inr (9, [.ref q_kind, .ref q_code, .ref q_need, .ref q_strength, .ref q_base, .ref q_inputs, .ref q_body, .int 0, .ref q_values, .int 0, .int q_ready]))] := hD
  refine lv_aload_n hx hb d_Waiting_begin_10 rfl (lv_at hl 0 rfl) ?_
  refine lv_iconst (v := 0) hx hb d_Waiting_begin_11 (by decide) ?_
  refine va_put (D := (dC, dI)) (ci := 9) (v := .int 0) (ty := .int) (C := R_Waiting) (T := F_Waiting) (N := 11) hx hb htt iw_Waiting t_Waiting t_Waiting_ok n_Waiting hown hK hP hD hS 0 rfl rfl 10 (by decide) (htt _ lk_Waiting_43) (fun _ h9 => h9) rfl (by decide +kernel) rfl rfl (Nat.le_of_ble_eq_true rfl) d_Waiting_begin_12 (fun H locs hP hD hS => ?_)
  have hP : va_P (dC, dI) classes [(h0, .inr (9, [.ref q_kind, .ref q_code, .ref q_need, .ref q_strength, .ref q_base, .ref q_inputs, .ref q_body, .int 0, .ref q_values, .int 0, .int 0]))] H := hP
  have hD : va_D A [(h0, .inr (9, [.ref q_kind, .ref q_code, .ref q_need, .ref q_strength, .ref q_base, .ref q_inputs, .ref q_body, .int 0, .ref q_values, .int 0, .int 0]))] := hD
  have hP9 := hP.sub (ws' := [(h0, .inr (9, [.ref q_kind, .ref q_code, .ref q_need, .ref q_strength, .ref q_base, .ref q_inputs, .ref q_body, .int 0, .ref q_values, .int 0, .int 0]))]) [0] rfl
  have hD9 := hD.sub (ws' := [(h0, .inr (9, [.ref q_kind, .ref q_code, .ref q_need, .ref q_strength, .ref q_base, .ref q_inputs, .ref q_body, .int 0, .ref q_values, .int 0, .int 0]))]) [0] (by decide) rfl
  have eW : [(h0, .inr (9, [.ref q_kind, .ref q_code, .ref q_need, .ref q_strength, .ref q_base, .ref q_inputs, .ref q_body, .int 0, .ref q_values, .int 0, .int 0]))] = ([(h0, .inr (9, [.ref q_kind, .ref q_code, .ref q_need, .ref q_strength, .ref q_base, .ref q_inputs, .ref q_body, .int m_Waiting_begin_w0_7, .ref q_values, .int m_Waiting_begin_w0_9, .int m_Waiting_begin_w0_10]))] : va_W) := by unfold m_Waiting_begin_w0_7 m_Waiting_begin_w0_9 m_Waiting_begin_w0_10; rfl
  rw [eW] at hP9 hD9
  exact W.vret hx hb hr (fun t9 ht hW => ⟨⟨(), rfl, trivial, by rw [ht]; exact hP9, va_K.moved hW.alike hK, hD9⟩, hS.F ht⟩) hS.2.2 d_Waiting_begin_15

def m_Waiting_meet_w1 (q_count : Int32) (q_kind_v : Nat → Int32) (a : Int32) : Nat → Int32 := if ((400 : Int32)) < q_count then q_kind_v else upd q_kind_v q_count.toNatClampNeg a
def m_Waiting_meet_w2 (q_count : Int32) (q_code_v : Nat → Int32) (b : Int32) : Nat → Int32 := if ((400 : Int32)) < q_count then q_code_v else upd q_code_v q_count.toNatClampNeg b
def m_Waiting_meet_w3 (q_count : Int32) (q_need_v : Nat → Int32) (d : Int32) : Nat → Int32 := if ((400 : Int32)) < q_count then q_need_v else upd q_need_v q_count.toNatClampNeg d
def m_Waiting_meet_w4 (q_count : Int32) (q_strength_v : Nat → Int32) (g : Int32) : Nat → Int32 := if ((400 : Int32)) < q_count then q_strength_v else upd q_strength_v q_count.toNatClampNeg g
def m_Waiting_meet_w5 (q_count : Int32) (q_height : Int32) (q_base_v : Nat → Int32) : Nat → Int32 := if ((400 : Int32)) < q_count then q_base_v else upd q_base_v q_count.toNatClampNeg q_height
set_option maxHeartbeats 4000000 in
set_option maxRecDepth 100000 in
theorem c_Waiting_meet (l : Launch) (dC : Nat → ClassId) (dI : Nat → Nat → Nat) (sz : Nat) (h0 : Nat) (q_kind : Nat) (q_code : Nat) (q_need : Nat) (q_strength : Nat) (q_base : Nat) (q_inputs : Nat) (q_body : Nat) (q_count : Int32) (q_values : Nat) (q_height : Int32) (q_ready : Int32) (q_kind_v : Nat → Int32) (q_code_v : Nat → Int32) (q_need_v : Nat → Int32) (q_strength_v : Nat → Int32) (q_base_v : Nat → Int32) (cI : ClassId) (a : Int32) (b : Int32) (d : Int32) (g : Int32) (hc : ¬ q_count < 0) : Met l y_Waiting_meet w_Waiting_meet ({ frames := 0, cells := 0, slots := 0, locals := 0 }) (va_Pc [.ref h0, .int a, .int b, .int d, .int g] (fun U => U.heap.size = sz ∧ va_P (dC, dI) classes [(h0, .inr (9, [.ref q_kind, .ref q_code, .ref q_need, .ref q_strength, .ref q_base, .ref q_inputs, .ref q_body, .int q_count, .ref q_values, .int q_height, .int q_ready])), (q_kind, .inl (cI, 401, .inl q_kind_v)), (q_code, .inl (cI, 401, .inl q_code_v)), (q_need, .inl (cI, 401, .inl q_need_v)), (q_strength, .inl (cI, 401, .inl q_strength_v)), (q_base, .inl (cI, 401, .inl q_base_v))] U.heap ∧ va_K (dC, dI) classes [(cI, .int)] U ∧ va_D (fun _ => True) [(h0, .inr (9, [.ref q_kind, .ref q_code, .ref q_need, .ref q_strength, .ref q_base, .ref q_inputs, .ref q_body, .int q_count, .ref q_values, .int q_height, .int q_ready])), (q_kind, .inl (cI, 401, .inl q_kind_v)), (q_code, .inl (cI, 401, .inl q_code_v)), (q_need, .inl (cI, 401, .inl q_need_v)), (q_strength, .inl (cI, 401, .inl q_strength_v)), (q_base, .inl (cI, 401, .inl q_base_v))])) (va_Qv (fun (_ : Unit) => True) (fun (_ : Unit) t => va_P (dC, dI) classes [(h0, .inr (9, [.ref q_kind, .ref q_code, .ref q_need, .ref q_strength, .ref q_base, .ref q_inputs, .ref q_body, .int q_count, .ref q_values, .int q_height, .int q_ready])), (q_kind, .inl (cI, 401, .inl (m_Waiting_meet_w1 q_count q_kind_v a))), (q_code, .inl (cI, 401, .inl (m_Waiting_meet_w2 q_count q_code_v b))), (q_need, .inl (cI, 401, .inl (m_Waiting_meet_w3 q_count q_need_v d))), (q_strength, .inl (cI, 401, .inl (m_Waiting_meet_w4 q_count q_strength_v g))), (q_base, .inl (cI, 401, .inl (m_Waiting_meet_w5 q_count q_height q_base_v)))] t.heap ∧ va_K (dC, dI) classes [(cI, .int)] t ∧ va_D (va_A [(h0, .inr (9, [.ref q_kind, .ref q_code, .ref q_need, .ref q_strength, .ref q_base, .ref q_inputs, .ref q_body, .int q_count, .ref q_values, .int q_height, .int q_ready])), (q_kind, .inl (cI, 401, .inl q_kind_v)), (q_code, .inl (cI, 401, .inl q_code_v)), (q_need, .inl (cI, 401, .inl q_need_v)), (q_strength, .inl (cI, 401, .inl q_strength_v)), (q_base, .inl (cI, 401, .inl q_base_v))] sz) [(h0, .inr (9, [.ref q_kind, .ref q_code, .ref q_need, .ref q_strength, .ref q_base, .ref q_inputs, .ref q_body, .int q_count, .ref q_values, .int q_height, .int q_ready])), (q_kind, .inl (cI, 401, .inl (m_Waiting_meet_w1 q_count q_kind_v a))), (q_code, .inl (cI, 401, .inl (m_Waiting_meet_w2 q_count q_code_v b))), (q_need, .inl (cI, 401, .inl (m_Waiting_meet_w3 q_count q_need_v d))), (q_strength, .inl (cI, 401, .inl (m_Waiting_meet_w4 q_count q_strength_v g))), (q_base, .inl (cI, 401, .inl (m_Waiting_meet_w5 q_count q_height q_base_v)))]) (va_A [(h0, .inr (9, [.ref q_kind, .ref q_code, .ref q_need, .ref q_strength, .ref q_base, .ref q_inputs, .ref q_body, .int q_count, .ref q_values, .int q_height, .int q_ready])), (q_kind, .inl (cI, 401, .inl q_kind_v)), (q_code, .inl (cI, 401, .inl q_code_v)), (q_need, .inl (cI, 401, .inl q_need_v)), (q_strength, .inl (cI, 401, .inl q_strength_v)), (q_base, .inl (cI, 401, .inl q_base_v))] sz)) 0 0 (va_A [(h0, .inr (9, [.ref q_kind, .ref q_code, .ref q_need, .ref q_strength, .ref q_base, .ref q_inputs, .ref q_body, .int q_count, .ref q_values, .int q_height, .int q_ready])), (q_kind, .inl (cI, 401, .inl q_kind_v)), (q_code, .inl (cI, 401, .inl q_code_v)), (q_need, .inl (cI, 401, .inl q_need_v)), (q_strength, .inl (cI, 401, .inl q_strength_v)), (q_base, .inl (cI, 401, .inl q_base_v))] sz) := by
  refine Met.ofW (cc := b_Waiting_meet) (maxL := 5) (ret := none) (by decide) rfl ?_
  intro p e s m args below meth c s₁ B hml hv
  obtain ⟨rfl, hsz, hP, hK, hD0⟩ := hv
  have hx := B.exec
  have hb := B.bytes
  have hr := B.returns
  have hts := atoms_spec (ws := w_Waiting_meet) B.pre
  have htt : ∀ w ∈ tw_T, w.before _ s = true := fun w h => hts w (List.mem_cons_of_mem _ h)
  have hown : s.vm.findClass R_Waiting = some m.cls := findClass_of_methodNamed B.named
  have hlocks := B.notSynchronized
  subst hsz
  have hD := hD0.self (sz := s.heap.size)
  generalize hAe : va_A [(h0, .inr (9, [.ref q_kind, .ref q_code, .ref q_need, .ref q_strength, .ref q_base, .ref q_inputs, .ref q_body, .int q_count, .ref q_values, .int q_height, .int q_ready])), (q_kind, .inl (cI, 401, .inl q_kind_v)), (q_code, .inl (cI, 401, .inl q_code_v)), (q_need, .inl (cI, 401, .inl q_need_v)), (q_strength, .inl (cI, 401, .inl q_strength_v)), (q_base, .inl (cI, 401, .inl q_base_v))] s.heap.size = A at hD ⊢
  have hA : ∀ q : Nat, s.heap.size ≤ q → A q := fun q h => by rw [← hAe]; exact Or.inr h
  have hS : va_S A s.heap s.heap [] := va_S.rf
  have hP : va_P (dC, dI) classes [(h0, .inr (9, [.ref q_kind, .ref q_code, .ref q_need, .ref q_strength, .ref q_base, .ref q_inputs, .ref q_body, .int q_count, .ref q_values, .int q_height, .int q_ready])), (q_kind, .inl (cI, 401, .inl q_kind_v)), (q_code, .inl (cI, 401, .inl q_code_v)), (q_need, .inl (cI, 401, .inl q_need_v)), (q_strength, .inl (cI, 401, .inl q_strength_v)), (q_base, .inl (cI, 401, .inl q_base_v))] s.heap := hP
  have hl := lv_entry ([.ref h0, .int a, .int b, .int d, .int g]) (n := 5) (Nat.le_of_ble_eq_true rfl)
  rw [lg_entry_eq]
  generalize (lg_sl ([.ref h0, .int a, .int b, .int d, .int g]) ++ List.replicate (5 - (lg_sl ([.ref h0, .int a, .int b, .int d, .int g])).length) Slot.unset).toArray = ls at hl ⊢
  have hl : lv_has ls 5 [(0, .ref h0), (1, .int a), (2, .int b), (3, .int d), (4, .int g)] := hl
  refine lv_aload_n hx hb d_Waiting_meet_0 rfl (lv_at hl 0 rfl) ?_
  refine va_get (D := (dC, dI)) (ci := 9) (v := .int q_count) (C := R_Waiting) (T := F_Waiting) (N := 11) hx hb htt iw_Waiting hown hK hP 0 rfl rfl 7 (by decide) (htt _ lk_Waiting_36) (fun _ h9 => h9) rfl d_Waiting_meet_1 ?_
  refine lv_sipush (v := 400) hx hb d_Waiting_meet_4 (by decide) ?_
  refine lv_icmp_gt (tgt := 64) hx hb d_Waiting_meet_7 (by decide) (fun c_1 => ?_) (fun c_1 => ?_)
  · have hP9 := hP.sub (ws' := [(h0, .inr (9, [.ref q_kind, .ref q_code, .ref q_need, .ref q_strength, .ref q_base, .ref q_inputs, .ref q_body, .int q_count, .ref q_values, .int q_height, .int q_ready])), (q_kind, .inl (cI, 401, .inl q_kind_v)), (q_code, .inl (cI, 401, .inl q_code_v)), (q_need, .inl (cI, 401, .inl q_need_v)), (q_strength, .inl (cI, 401, .inl q_strength_v)), (q_base, .inl (cI, 401, .inl q_base_v))]) [0, 1, 2, 3, 4, 5] rfl
    have hD9 := hD.sub (ws' := [(h0, .inr (9, [.ref q_kind, .ref q_code, .ref q_need, .ref q_strength, .ref q_base, .ref q_inputs, .ref q_body, .int q_count, .ref q_values, .int q_height, .int q_ready])), (q_kind, .inl (cI, 401, .inl q_kind_v)), (q_code, .inl (cI, 401, .inl q_code_v)), (q_need, .inl (cI, 401, .inl q_need_v)), (q_strength, .inl (cI, 401, .inl q_strength_v)), (q_base, .inl (cI, 401, .inl q_base_v))]) [0, 1, 2, 3, 4, 5] (by decide) rfl
    have eW : [(h0, .inr (9, [.ref q_kind, .ref q_code, .ref q_need, .ref q_strength, .ref q_base, .ref q_inputs, .ref q_body, .int q_count, .ref q_values, .int q_height, .int q_ready])), (q_kind, .inl (cI, 401, .inl q_kind_v)), (q_code, .inl (cI, 401, .inl q_code_v)), (q_need, .inl (cI, 401, .inl q_need_v)), (q_strength, .inl (cI, 401, .inl q_strength_v)), (q_base, .inl (cI, 401, .inl q_base_v))] = ([(h0, .inr (9, [.ref q_kind, .ref q_code, .ref q_need, .ref q_strength, .ref q_base, .ref q_inputs, .ref q_body, .int q_count, .ref q_values, .int q_height, .int q_ready])), (q_kind, .inl (cI, 401, .inl (m_Waiting_meet_w1 q_count q_kind_v a))), (q_code, .inl (cI, 401, .inl (m_Waiting_meet_w2 q_count q_code_v b))), (q_need, .inl (cI, 401, .inl (m_Waiting_meet_w3 q_count q_need_v d))), (q_strength, .inl (cI, 401, .inl (m_Waiting_meet_w4 q_count q_strength_v g))), (q_base, .inl (cI, 401, .inl (m_Waiting_meet_w5 q_count q_height q_base_v)))] : va_W) := by unfold m_Waiting_meet_w1 m_Waiting_meet_w2 m_Waiting_meet_w3 m_Waiting_meet_w4 m_Waiting_meet_w5; simp only [if_pos c_1]
    rw [eW] at hP9 hD9
    exact W.vret hx hb hr (fun t9 ht hW => ⟨⟨(), rfl, trivial, by rw [ht]; exact hP9, va_K.moved hW.alike hK, hD9⟩, hS.F ht⟩) hS.2.2 d_Waiting_meet_64
  · refine lv_aload_n hx hb d_Waiting_meet_10 rfl (lv_at hl 0 rfl) ?_
    refine va_get (D := (dC, dI)) (ci := 9) (v := .ref q_kind) (C := R_Waiting) (T := F_Waiting) (N := 11) hx hb htt iw_Waiting hown hK hP 0 rfl rfl 0 (by decide) (htt _ lk_Waiting_9) (fun _ h9 => h9) rfl d_Waiting_meet_11 ?_
    refine lv_aload_n hx hb d_Waiting_meet_14 rfl (lv_at hl 0 rfl) ?_
    refine va_get (D := (dC, dI)) (ci := 9) (v := .int q_count) (C := R_Waiting) (T := F_Waiting) (N := 11) hx hb htt iw_Waiting hown hK hP 0 rfl rfl 7 (by decide) (htt _ lk_Waiting_36) (fun _ h9 => h9) rfl d_Waiting_meet_15 ?_
    refine lv_iload_n hx hb d_Waiting_meet_18 rfl (lv_at hl 1 rfl) ?_
    have h_2 : vp_in q_count 401 := by rw [vp_in_iff]; simp only [Int32.lt_iff_toInt_lt, Int32.le_iff_toInt_le, Int32.reduceToInt] at c_1 hc ⊢; omega
    refine va_iast hx hb hK hP hD hS 1 0 rfl rfl h_2 d_Waiting_meet_19 (fun H locs hP hD hS => ?_)
    have hP : va_P (dC, dI) classes [(h0, .inr (9, [.ref q_kind, .ref q_code, .ref q_need, .ref q_strength, .ref q_base, .ref q_inputs, .ref q_body, .int q_count, .ref q_values, .int q_height, .int q_ready])), (q_kind, .inl (cI, 401, .inl (upd q_kind_v q_count.toNatClampNeg a))), (q_code, .inl (cI, 401, .inl q_code_v)), (q_need, .inl (cI, 401, .inl q_need_v)), (q_strength, .inl (cI, 401, .inl q_strength_v)), (q_base, .inl (cI, 401, .inl q_base_v))] H := hP
    have hD : va_D A [(h0, .inr (9, [.ref q_kind, .ref q_code, .ref q_need, .ref q_strength, .ref q_base, .ref q_inputs, .ref q_body, .int q_count, .ref q_values, .int q_height, .int q_ready])), (q_kind, .inl (cI, 401, .inl (upd q_kind_v q_count.toNatClampNeg a))), (q_code, .inl (cI, 401, .inl q_code_v)), (q_need, .inl (cI, 401, .inl q_need_v)), (q_strength, .inl (cI, 401, .inl q_strength_v)), (q_base, .inl (cI, 401, .inl q_base_v))] := hD
    refine lv_aload_n hx hb d_Waiting_meet_20 rfl (lv_at hl 0 rfl) ?_
    refine va_get (D := (dC, dI)) (ci := 9) (v := .ref q_code) (C := R_Waiting) (T := F_Waiting) (N := 11) hx hb htt iw_Waiting hown hK hP 0 rfl rfl 1 (by decide) (htt _ lk_Waiting_15) (fun _ h9 => h9) rfl d_Waiting_meet_21 ?_
    refine lv_aload_n hx hb d_Waiting_meet_24 rfl (lv_at hl 0 rfl) ?_
    refine va_get (D := (dC, dI)) (ci := 9) (v := .int q_count) (C := R_Waiting) (T := F_Waiting) (N := 11) hx hb htt iw_Waiting hown hK hP 0 rfl rfl 7 (by decide) (htt _ lk_Waiting_36) (fun _ h9 => h9) rfl d_Waiting_meet_25 ?_
    refine lv_iload_n hx hb d_Waiting_meet_28 rfl (lv_at hl 2 rfl) ?_
    have h_3 : vp_in q_count 401 := by rw [vp_in_iff]; simp only [Int32.lt_iff_toInt_lt, Int32.le_iff_toInt_le, Int32.reduceToInt] at c_1 hc ⊢; omega
    refine va_iast hx hb hK hP hD hS 2 0 rfl rfl h_3 d_Waiting_meet_29 (fun H locs hP hD hS => ?_)
    have hP : va_P (dC, dI) classes [(h0, .inr (9, [.ref q_kind, .ref q_code, .ref q_need, .ref q_strength, .ref q_base, .ref q_inputs, .ref q_body, .int q_count, .ref q_values, .int q_height, .int q_ready])), (q_kind, .inl (cI, 401, .inl (upd q_kind_v q_count.toNatClampNeg a))), (q_code, .inl (cI, 401, .inl (upd q_code_v q_count.toNatClampNeg b))), (q_need, .inl (cI, 401, .inl q_need_v)), (q_strength, .inl (cI, 401, .inl q_strength_v)), (q_base, .inl (cI, 401, .inl q_base_v))] H := hP
    have hD : va_D A [(h0, .inr (9, [.ref q_kind, .ref q_code, .ref q_need, .ref q_strength, .ref q_base, .ref q_inputs, .ref q_body, .int q_count, .ref q_values, .int q_height, .int q_ready])), (q_kind, .inl (cI, 401, .inl (upd q_kind_v q_count.toNatClampNeg a))), (q_code, .inl (cI, 401, .inl (upd q_code_v q_count.toNatClampNeg b))), (q_need, .inl (cI, 401, .inl q_need_v)), (q_strength, .inl (cI, 401, .inl q_strength_v)), (q_base, .inl (cI, 401, .inl q_base_v))] := hD
    refine lv_aload_n hx hb d_Waiting_meet_30 rfl (lv_at hl 0 rfl) ?_
    refine va_get (D := (dC, dI)) (ci := 9) (v := .ref q_need) (C := R_Waiting) (T := F_Waiting) (N := 11) hx hb htt iw_Waiting hown hK hP 0 rfl rfl 2 (by decide) (htt _ lk_Waiting_18) (fun _ h9 => h9) rfl d_Waiting_meet_31 ?_
    refine lv_aload_n hx hb d_Waiting_meet_34 rfl (lv_at hl 0 rfl) ?_
    refine va_get (D := (dC, dI)) (ci := 9) (v := .int q_count) (C := R_Waiting) (T := F_Waiting) (N := 11) hx hb htt iw_Waiting hown hK hP 0 rfl rfl 7 (by decide) (htt _ lk_Waiting_36) (fun _ h9 => h9) rfl d_Waiting_meet_35 ?_
    refine lv_iload_n hx hb d_Waiting_meet_38 rfl (lv_at hl 3 rfl) ?_
    have h_4 : vp_in q_count 401 := by rw [vp_in_iff]; simp only [Int32.lt_iff_toInt_lt, Int32.le_iff_toInt_le, Int32.reduceToInt] at c_1 hc ⊢; omega
    refine va_iast hx hb hK hP hD hS 3 0 rfl rfl h_4 d_Waiting_meet_39 (fun H locs hP hD hS => ?_)
    have hP : va_P (dC, dI) classes [(h0, .inr (9, [.ref q_kind, .ref q_code, .ref q_need, .ref q_strength, .ref q_base, .ref q_inputs, .ref q_body, .int q_count, .ref q_values, .int q_height, .int q_ready])), (q_kind, .inl (cI, 401, .inl (upd q_kind_v q_count.toNatClampNeg a))), (q_code, .inl (cI, 401, .inl (upd q_code_v q_count.toNatClampNeg b))), (q_need, .inl (cI, 401, .inl (upd q_need_v q_count.toNatClampNeg d))), (q_strength, .inl (cI, 401, .inl q_strength_v)), (q_base, .inl (cI, 401, .inl q_base_v))] H := hP
    have hD : va_D A [(h0, .inr (9, [.ref q_kind, .ref q_code, .ref q_need, .ref q_strength, .ref q_base, .ref q_inputs, .ref q_body, .int q_count, .ref q_values, .int q_height, .int q_ready])), (q_kind, .inl (cI, 401, .inl (upd q_kind_v q_count.toNatClampNeg a))), (q_code, .inl (cI, 401, .inl (upd q_code_v q_count.toNatClampNeg b))), (q_need, .inl (cI, 401, .inl (upd q_need_v q_count.toNatClampNeg d))), (q_strength, .inl (cI, 401, .inl q_strength_v)), (q_base, .inl (cI, 401, .inl q_base_v))] := hD
    refine lv_aload_n hx hb d_Waiting_meet_40 rfl (lv_at hl 0 rfl) ?_
    refine va_get (D := (dC, dI)) (ci := 9) (v := .ref q_strength) (C := R_Waiting) (T := F_Waiting) (N := 11) hx hb htt iw_Waiting hown hK hP 0 rfl rfl 3 (by decide) (htt _ lk_Waiting_21) (fun _ h9 => h9) rfl d_Waiting_meet_41 ?_
    refine lv_aload_n hx hb d_Waiting_meet_44 rfl (lv_at hl 0 rfl) ?_
    refine va_get (D := (dC, dI)) (ci := 9) (v := .int q_count) (C := R_Waiting) (T := F_Waiting) (N := 11) hx hb htt iw_Waiting hown hK hP 0 rfl rfl 7 (by decide) (htt _ lk_Waiting_36) (fun _ h9 => h9) rfl d_Waiting_meet_45 ?_
    refine lv_iload hx hb d_Waiting_meet_48 (lv_at hl 4 rfl) ?_
    have h_5 : vp_in q_count 401 := by rw [vp_in_iff]; simp only [Int32.lt_iff_toInt_lt, Int32.le_iff_toInt_le, Int32.reduceToInt] at c_1 hc ⊢; omega
    refine va_iast hx hb hK hP hD hS 4 0 rfl rfl h_5 d_Waiting_meet_50 (fun H locs hP hD hS => ?_)
    have hP : va_P (dC, dI) classes [(h0, .inr (9, [.ref q_kind, .ref q_code, .ref q_need, .ref q_strength, .ref q_base, .ref q_inputs, .ref q_body, .int q_count, .ref q_values, .int q_height, .int q_ready])), (q_kind, .inl (cI, 401, .inl (upd q_kind_v q_count.toNatClampNeg a))), (q_code, .inl (cI, 401, .inl (upd q_code_v q_count.toNatClampNeg b))), (q_need, .inl (cI, 401, .inl (upd q_need_v q_count.toNatClampNeg d))), (q_strength, .inl (cI, 401, .inl (upd q_strength_v q_count.toNatClampNeg g))), (q_base, .inl (cI, 401, .inl q_base_v))] H := hP
    have hD : va_D A [(h0, .inr (9, [.ref q_kind, .ref q_code, .ref q_need, .ref q_strength, .ref q_base, .ref q_inputs, .ref q_body, .int q_count, .ref q_values, .int q_height, .int q_ready])), (q_kind, .inl (cI, 401, .inl (upd q_kind_v q_count.toNatClampNeg a))), (q_code, .inl (cI, 401, .inl (upd q_code_v q_count.toNatClampNeg b))), (q_need, .inl (cI, 401, .inl (upd q_need_v q_count.toNatClampNeg d))), (q_strength, .inl (cI, 401, .inl (upd q_strength_v q_count.toNatClampNeg g))), (q_base, .inl (cI, 401, .inl q_base_v))] := hD
    refine lv_aload_n hx hb d_Waiting_meet_51 rfl (lv_at hl 0 rfl) ?_
    refine va_get (D := (dC, dI)) (ci := 9) (v := .ref q_base) (C := R_Waiting) (T := F_Waiting) (N := 11) hx hb htt iw_Waiting hown hK hP 0 rfl rfl 4 (by decide) (htt _ lk_Waiting_24) (fun _ h9 => h9) rfl d_Waiting_meet_52 ?_
    refine lv_aload_n hx hb d_Waiting_meet_55 rfl (lv_at hl 0 rfl) ?_
    refine va_get (D := (dC, dI)) (ci := 9) (v := .int q_count) (C := R_Waiting) (T := F_Waiting) (N := 11) hx hb htt iw_Waiting hown hK hP 0 rfl rfl 7 (by decide) (htt _ lk_Waiting_36) (fun _ h9 => h9) rfl d_Waiting_meet_56 ?_
    refine lv_aload_n hx hb d_Waiting_meet_59 rfl (lv_at hl 0 rfl) ?_
    refine va_get (D := (dC, dI)) (ci := 9) (v := .int q_height) (C := R_Waiting) (T := F_Waiting) (N := 11) hx hb htt iw_Waiting hown hK hP 0 rfl rfl 9 (by decide) (htt _ lk_Waiting_40) (fun _ h9 => h9) rfl d_Waiting_meet_60 ?_
    have h_6 : vp_in q_count 401 := by rw [vp_in_iff]; simp only [Int32.lt_iff_toInt_lt, Int32.le_iff_toInt_le, Int32.reduceToInt] at c_1 hc ⊢; omega
    refine va_iast hx hb hK hP hD hS 5 0 rfl rfl h_6 d_Waiting_meet_63 (fun H locs hP hD hS => ?_)
    have hP : va_P (dC, dI) classes [(h0, .inr (9, [.ref q_kind, .ref q_code, .ref q_need, .ref q_strength, .ref q_base, .ref q_inputs, .ref q_body, .int q_count, .ref q_values, .int q_height, .int q_ready])), (q_kind, .inl (cI, 401, .inl (upd q_kind_v q_count.toNatClampNeg a))), (q_code, .inl (cI, 401, .inl (upd q_code_v q_count.toNatClampNeg b))), (q_need, .inl (cI, 401, .inl (upd q_need_v q_count.toNatClampNeg d))), (q_strength, .inl (cI, 401, .inl (upd q_strength_v q_count.toNatClampNeg g))), (q_base, .inl (cI, 401, .inl (upd q_base_v q_count.toNatClampNeg q_height)))] H := hP
    have hD : va_D A [(h0, .inr (9, [.ref q_kind, .ref q_code, .ref q_need, .ref q_strength, .ref q_base, .ref q_inputs, .ref q_body, .int q_count, .ref q_values, .int q_height, .int q_ready])), (q_kind, .inl (cI, 401, .inl (upd q_kind_v q_count.toNatClampNeg a))), (q_code, .inl (cI, 401, .inl (upd q_code_v q_count.toNatClampNeg b))), (q_need, .inl (cI, 401, .inl (upd q_need_v q_count.toNatClampNeg d))), (q_strength, .inl (cI, 401, .inl (upd q_strength_v q_count.toNatClampNeg g))), (q_base, .inl (cI, 401, .inl (upd q_base_v q_count.toNatClampNeg q_height)))] := hD
    have hP9 := hP.sub (ws' := [(h0, .inr (9, [.ref q_kind, .ref q_code, .ref q_need, .ref q_strength, .ref q_base, .ref q_inputs, .ref q_body, .int q_count, .ref q_values, .int q_height, .int q_ready])), (q_kind, .inl (cI, 401, .inl (upd q_kind_v q_count.toNatClampNeg a))), (q_code, .inl (cI, 401, .inl (upd q_code_v q_count.toNatClampNeg b))), (q_need, .inl (cI, 401, .inl (upd q_need_v q_count.toNatClampNeg d))), (q_strength, .inl (cI, 401, .inl (upd q_strength_v q_count.toNatClampNeg g))), (q_base, .inl (cI, 401, .inl (upd q_base_v q_count.toNatClampNeg q_height)))]) [0, 1, 2, 3, 4, 5] rfl
    have hD9 := hD.sub (ws' := [(h0, .inr (9, [.ref q_kind, .ref q_code, .ref q_need, .ref q_strength, .ref q_base, .ref q_inputs, .ref q_body, .int q_count, .ref q_values, .int q_height, .int q_ready])), (q_kind, .inl (cI, 401, .inl (upd q_kind_v q_count.toNatClampNeg a))), (q_code, .inl (cI, 401, .inl (upd q_code_v q_count.toNatClampNeg b))), (q_need, .inl (cI, 401, .inl (upd q_need_v q_count.toNatClampNeg d))), (q_strength, .inl (cI, 401, .inl (upd q_strength_v q_count.toNatClampNeg g))), (q_base, .inl (cI, 401, .inl (upd q_base_v q_count.toNatClampNeg q_height)))]) [0, 1, 2, 3, 4, 5] (by decide) rfl
    have eW : [(h0, .inr (9, [.ref q_kind, .ref q_code, .ref q_need, .ref q_strength, .ref q_base, .ref q_inputs, .ref q_body, .int q_count, .ref q_values, .int q_height, .int q_ready])), (q_kind, .inl (cI, 401, .inl (upd q_kind_v q_count.toNatClampNeg a))), (q_code, .inl (cI, 401, .inl (upd q_code_v q_count.toNatClampNeg b))), (q_need, .inl (cI, 401, .inl (upd q_need_v q_count.toNatClampNeg d))), (q_strength, .inl (cI, 401, .inl (upd q_strength_v q_count.toNatClampNeg g))), (q_base, .inl (cI, 401, .inl (upd q_base_v q_count.toNatClampNeg q_height)))] = ([(h0, .inr (9, [.ref q_kind, .ref q_code, .ref q_need, .ref q_strength, .ref q_base, .ref q_inputs, .ref q_body, .int q_count, .ref q_values, .int q_height, .int q_ready])), (q_kind, .inl (cI, 401, .inl (m_Waiting_meet_w1 q_count q_kind_v a))), (q_code, .inl (cI, 401, .inl (m_Waiting_meet_w2 q_count q_code_v b))), (q_need, .inl (cI, 401, .inl (m_Waiting_meet_w3 q_count q_need_v d))), (q_strength, .inl (cI, 401, .inl (m_Waiting_meet_w4 q_count q_strength_v g))), (q_base, .inl (cI, 401, .inl (m_Waiting_meet_w5 q_count q_height q_base_v)))] : va_W) := by unfold m_Waiting_meet_w1 m_Waiting_meet_w2 m_Waiting_meet_w3 m_Waiting_meet_w4 m_Waiting_meet_w5; simp only [if_neg c_1]
    rw [eW] at hP9 hD9
    exact W.vret hx hb hr (fun t9 ht hW => ⟨⟨(), rfl, trivial, by rw [ht]; exact hP9, va_K.moved hW.alike hK, hD9⟩, hS.F ht⟩) hS.2.2 d_Waiting_meet_64

def m_Waiting_meetCall_w1 (q_count : Int32) (q_kind_v : Nat → Int32) : Nat → Int32 := if ((400 : Int32)) < q_count then q_kind_v else m_Waiting_meet_w1 q_count q_kind_v 2
def m_Waiting_meetCall_w2 (q_count : Int32) (q_code_v : Nat → Int32) (a : Int32) : Nat → Int32 := if ((400 : Int32)) < q_count then q_code_v else m_Waiting_meet_w2 q_count q_code_v a
def m_Waiting_meetCall_w3 (q_count : Int32) (q_need_v : Nat → Int32) (g : Int32) : Nat → Int32 := if ((400 : Int32)) < q_count then q_need_v else m_Waiting_meet_w3 q_count q_need_v g
def m_Waiting_meetCall_w4 (q_count : Int32) (q_strength_v : Nat → Int32) : Nat → Int32 := if ((400 : Int32)) < q_count then q_strength_v else m_Waiting_meet_w4 q_count q_strength_v 0
def m_Waiting_meetCall_w5 (q_count : Int32) (q_height : Int32) (q_base_v : Nat → Int32) : Nat → Int32 := if ((400 : Int32)) < q_count then q_base_v else m_Waiting_meet_w5 q_count q_height q_base_v
def m_Waiting_meetCall_w6 (q_count : Int32) (q_inputs_v : Nat → Int32) (b : Int32) : Nat → Int32 := if ((400 : Int32)) < q_count then q_inputs_v else upd q_inputs_v q_count.toNatClampNeg b
def m_Waiting_meetCall_w7 (q_count : Int32) (q_body_v : Nat → Int32) (d : Int32) : Nat → Int32 := if ((400 : Int32)) < q_count then q_body_v else upd q_body_v q_count.toNatClampNeg d
set_option maxHeartbeats 4000000 in
set_option maxRecDepth 100000 in
theorem c_Waiting_meetCall (l : Launch) (dC : Nat → ClassId) (dI : Nat → Nat → Nat) (sz : Nat) (h0 : Nat) (q_kind : Nat) (q_code : Nat) (q_need : Nat) (q_strength : Nat) (q_base : Nat) (q_inputs : Nat) (q_body : Nat) (q_count : Int32) (q_values : Nat) (q_height : Int32) (q_ready : Int32) (q_kind_v : Nat → Int32) (q_code_v : Nat → Int32) (q_need_v : Nat → Int32) (q_strength_v : Nat → Int32) (q_base_v : Nat → Int32) (q_inputs_v : Nat → Int32) (q_body_v : Nat → Int32) (cI : ClassId) (a : Int32) (b : Int32) (d : Int32) (g : Int32) (hc : ¬ q_count < 0) : Met l y_Waiting_meetCall w_Waiting_meetCall ({ frames := 1, cells := 0, slots := 0, locals := 24 }) (va_Pc [.ref h0, .int a, .int b, .int d, .int g] (fun U => U.heap.size = sz ∧ va_P (dC, dI) classes [(h0, .inr (9, [.ref q_kind, .ref q_code, .ref q_need, .ref q_strength, .ref q_base, .ref q_inputs, .ref q_body, .int q_count, .ref q_values, .int q_height, .int q_ready])), (q_kind, .inl (cI, 401, .inl q_kind_v)), (q_code, .inl (cI, 401, .inl q_code_v)), (q_need, .inl (cI, 401, .inl q_need_v)), (q_strength, .inl (cI, 401, .inl q_strength_v)), (q_base, .inl (cI, 401, .inl q_base_v)), (q_inputs, .inl (cI, 401, .inl q_inputs_v)), (q_body, .inl (cI, 401, .inl q_body_v))] U.heap ∧ va_K (dC, dI) classes [(cI, .int)] U ∧ va_D (fun _ => True) [(h0, .inr (9, [.ref q_kind, .ref q_code, .ref q_need, .ref q_strength, .ref q_base, .ref q_inputs, .ref q_body, .int q_count, .ref q_values, .int q_height, .int q_ready])), (q_kind, .inl (cI, 401, .inl q_kind_v)), (q_code, .inl (cI, 401, .inl q_code_v)), (q_need, .inl (cI, 401, .inl q_need_v)), (q_strength, .inl (cI, 401, .inl q_strength_v)), (q_base, .inl (cI, 401, .inl q_base_v)), (q_inputs, .inl (cI, 401, .inl q_inputs_v)), (q_body, .inl (cI, 401, .inl q_body_v))])) (va_Qv (fun (_ : Unit) => True) (fun (_ : Unit) t => va_P (dC, dI) classes [(h0, .inr (9, [.ref q_kind, .ref q_code, .ref q_need, .ref q_strength, .ref q_base, .ref q_inputs, .ref q_body, .int q_count, .ref q_values, .int q_height, .int q_ready])), (q_kind, .inl (cI, 401, .inl (m_Waiting_meetCall_w1 q_count q_kind_v))), (q_code, .inl (cI, 401, .inl (m_Waiting_meetCall_w2 q_count q_code_v a))), (q_need, .inl (cI, 401, .inl (m_Waiting_meetCall_w3 q_count q_need_v g))), (q_strength, .inl (cI, 401, .inl (m_Waiting_meetCall_w4 q_count q_strength_v))), (q_base, .inl (cI, 401, .inl (m_Waiting_meetCall_w5 q_count q_height q_base_v))), (q_inputs, .inl (cI, 401, .inl (m_Waiting_meetCall_w6 q_count q_inputs_v b))), (q_body, .inl (cI, 401, .inl (m_Waiting_meetCall_w7 q_count q_body_v d)))] t.heap ∧ va_K (dC, dI) classes [(cI, .int)] t ∧ va_D (va_A [(h0, .inr (9, [.ref q_kind, .ref q_code, .ref q_need, .ref q_strength, .ref q_base, .ref q_inputs, .ref q_body, .int q_count, .ref q_values, .int q_height, .int q_ready])), (q_kind, .inl (cI, 401, .inl q_kind_v)), (q_code, .inl (cI, 401, .inl q_code_v)), (q_need, .inl (cI, 401, .inl q_need_v)), (q_strength, .inl (cI, 401, .inl q_strength_v)), (q_base, .inl (cI, 401, .inl q_base_v)), (q_inputs, .inl (cI, 401, .inl q_inputs_v)), (q_body, .inl (cI, 401, .inl q_body_v))] sz) [(h0, .inr (9, [.ref q_kind, .ref q_code, .ref q_need, .ref q_strength, .ref q_base, .ref q_inputs, .ref q_body, .int q_count, .ref q_values, .int q_height, .int q_ready])), (q_kind, .inl (cI, 401, .inl (m_Waiting_meetCall_w1 q_count q_kind_v))), (q_code, .inl (cI, 401, .inl (m_Waiting_meetCall_w2 q_count q_code_v a))), (q_need, .inl (cI, 401, .inl (m_Waiting_meetCall_w3 q_count q_need_v g))), (q_strength, .inl (cI, 401, .inl (m_Waiting_meetCall_w4 q_count q_strength_v))), (q_base, .inl (cI, 401, .inl (m_Waiting_meetCall_w5 q_count q_height q_base_v))), (q_inputs, .inl (cI, 401, .inl (m_Waiting_meetCall_w6 q_count q_inputs_v b))), (q_body, .inl (cI, 401, .inl (m_Waiting_meetCall_w7 q_count q_body_v d)))]) (va_A [(h0, .inr (9, [.ref q_kind, .ref q_code, .ref q_need, .ref q_strength, .ref q_base, .ref q_inputs, .ref q_body, .int q_count, .ref q_values, .int q_height, .int q_ready])), (q_kind, .inl (cI, 401, .inl q_kind_v)), (q_code, .inl (cI, 401, .inl q_code_v)), (q_need, .inl (cI, 401, .inl q_need_v)), (q_strength, .inl (cI, 401, .inl q_strength_v)), (q_base, .inl (cI, 401, .inl q_base_v)), (q_inputs, .inl (cI, 401, .inl q_inputs_v)), (q_body, .inl (cI, 401, .inl q_body_v))] sz)) 0 0 (va_A [(h0, .inr (9, [.ref q_kind, .ref q_code, .ref q_need, .ref q_strength, .ref q_base, .ref q_inputs, .ref q_body, .int q_count, .ref q_values, .int q_height, .int q_ready])), (q_kind, .inl (cI, 401, .inl q_kind_v)), (q_code, .inl (cI, 401, .inl q_code_v)), (q_need, .inl (cI, 401, .inl q_need_v)), (q_strength, .inl (cI, 401, .inl q_strength_v)), (q_base, .inl (cI, 401, .inl q_base_v)), (q_inputs, .inl (cI, 401, .inl q_inputs_v)), (q_body, .inl (cI, 401, .inl q_body_v))] sz) := by
  refine Met.ofW (cc := b_Waiting_meetCall) (maxL := 5) (ret := none) (by decide) rfl ?_
  intro p e s m args below meth c s₁ B hml hv
  obtain ⟨rfl, hsz, hP, hK, hD0⟩ := hv
  have hx := B.exec
  have hb := B.bytes
  have hr := B.returns
  have hts := atoms_spec (ws := w_Waiting_meetCall) B.pre
  have htt : ∀ w ∈ tw_T, w.before _ s = true := fun w h => hts w (List.mem_cons_of_mem _ h)
  have hown : s.vm.findClass R_Waiting = some m.cls := findClass_of_methodNamed B.named
  have hlocks := B.notSynchronized
  subst hsz
  have hD := hD0.self (sz := s.heap.size)
  generalize hAe : va_A [(h0, .inr (9, [.ref q_kind, .ref q_code, .ref q_need, .ref q_strength, .ref q_base, .ref q_inputs, .ref q_body, .int q_count, .ref q_values, .int q_height, .int q_ready])), (q_kind, .inl (cI, 401, .inl q_kind_v)), (q_code, .inl (cI, 401, .inl q_code_v)), (q_need, .inl (cI, 401, .inl q_need_v)), (q_strength, .inl (cI, 401, .inl q_strength_v)), (q_base, .inl (cI, 401, .inl q_base_v)), (q_inputs, .inl (cI, 401, .inl q_inputs_v)), (q_body, .inl (cI, 401, .inl q_body_v))] s.heap.size = A at hD ⊢
  have hA : ∀ q : Nat, s.heap.size ≤ q → A q := fun q h => by rw [← hAe]; exact Or.inr h
  have hS : va_S A s.heap s.heap [] := va_S.rf
  have hP : va_P (dC, dI) classes [(h0, .inr (9, [.ref q_kind, .ref q_code, .ref q_need, .ref q_strength, .ref q_base, .ref q_inputs, .ref q_body, .int q_count, .ref q_values, .int q_height, .int q_ready])), (q_kind, .inl (cI, 401, .inl q_kind_v)), (q_code, .inl (cI, 401, .inl q_code_v)), (q_need, .inl (cI, 401, .inl q_need_v)), (q_strength, .inl (cI, 401, .inl q_strength_v)), (q_base, .inl (cI, 401, .inl q_base_v)), (q_inputs, .inl (cI, 401, .inl q_inputs_v)), (q_body, .inl (cI, 401, .inl q_body_v))] s.heap := hP
  have hl := lv_entry ([.ref h0, .int a, .int b, .int d, .int g]) (n := 5) (Nat.le_of_ble_eq_true rfl)
  rw [lg_entry_eq]
  generalize (lg_sl ([.ref h0, .int a, .int b, .int d, .int g]) ++ List.replicate (5 - (lg_sl ([.ref h0, .int a, .int b, .int d, .int g])).length) Slot.unset).toArray = ls at hl ⊢
  have hl : lv_has ls 5 [(0, .ref h0), (1, .int a), (2, .int b), (3, .int d), (4, .int g)] := hl
  refine lv_aload_n hx hb d_Waiting_meetCall_0 rfl (lv_at hl 0 rfl) ?_
  refine va_get (D := (dC, dI)) (ci := 9) (v := .int q_count) (C := R_Waiting) (T := F_Waiting) (N := 11) hx hb htt iw_Waiting hown hK hP 0 rfl rfl 7 (by decide) (htt _ lk_Waiting_36) (fun _ h9 => h9) rfl d_Waiting_meetCall_1 ?_
  refine lv_sipush (v := 400) hx hb d_Waiting_meetCall_4 (by decide) ?_
  refine lv_icmp_gt (tgt := 39) hx hb d_Waiting_meetCall_7 (by decide) (fun c_1 => ?_) (fun c_1 => ?_)
  · have hP9 := hP.sub (ws' := [(h0, .inr (9, [.ref q_kind, .ref q_code, .ref q_need, .ref q_strength, .ref q_base, .ref q_inputs, .ref q_body, .int q_count, .ref q_values, .int q_height, .int q_ready])), (q_kind, .inl (cI, 401, .inl q_kind_v)), (q_code, .inl (cI, 401, .inl q_code_v)), (q_need, .inl (cI, 401, .inl q_need_v)), (q_strength, .inl (cI, 401, .inl q_strength_v)), (q_base, .inl (cI, 401, .inl q_base_v)), (q_inputs, .inl (cI, 401, .inl q_inputs_v)), (q_body, .inl (cI, 401, .inl q_body_v))]) [0, 1, 2, 3, 4, 5, 6, 7] rfl
    have hD9 := hD.sub (ws' := [(h0, .inr (9, [.ref q_kind, .ref q_code, .ref q_need, .ref q_strength, .ref q_base, .ref q_inputs, .ref q_body, .int q_count, .ref q_values, .int q_height, .int q_ready])), (q_kind, .inl (cI, 401, .inl q_kind_v)), (q_code, .inl (cI, 401, .inl q_code_v)), (q_need, .inl (cI, 401, .inl q_need_v)), (q_strength, .inl (cI, 401, .inl q_strength_v)), (q_base, .inl (cI, 401, .inl q_base_v)), (q_inputs, .inl (cI, 401, .inl q_inputs_v)), (q_body, .inl (cI, 401, .inl q_body_v))]) [0, 1, 2, 3, 4, 5, 6, 7] (by decide) rfl
    have eW : [(h0, .inr (9, [.ref q_kind, .ref q_code, .ref q_need, .ref q_strength, .ref q_base, .ref q_inputs, .ref q_body, .int q_count, .ref q_values, .int q_height, .int q_ready])), (q_kind, .inl (cI, 401, .inl q_kind_v)), (q_code, .inl (cI, 401, .inl q_code_v)), (q_need, .inl (cI, 401, .inl q_need_v)), (q_strength, .inl (cI, 401, .inl q_strength_v)), (q_base, .inl (cI, 401, .inl q_base_v)), (q_inputs, .inl (cI, 401, .inl q_inputs_v)), (q_body, .inl (cI, 401, .inl q_body_v))] = ([(h0, .inr (9, [.ref q_kind, .ref q_code, .ref q_need, .ref q_strength, .ref q_base, .ref q_inputs, .ref q_body, .int q_count, .ref q_values, .int q_height, .int q_ready])), (q_kind, .inl (cI, 401, .inl (m_Waiting_meetCall_w1 q_count q_kind_v))), (q_code, .inl (cI, 401, .inl (m_Waiting_meetCall_w2 q_count q_code_v a))), (q_need, .inl (cI, 401, .inl (m_Waiting_meetCall_w3 q_count q_need_v g))), (q_strength, .inl (cI, 401, .inl (m_Waiting_meetCall_w4 q_count q_strength_v))), (q_base, .inl (cI, 401, .inl (m_Waiting_meetCall_w5 q_count q_height q_base_v))), (q_inputs, .inl (cI, 401, .inl (m_Waiting_meetCall_w6 q_count q_inputs_v b))), (q_body, .inl (cI, 401, .inl (m_Waiting_meetCall_w7 q_count q_body_v d)))] : va_W) := by unfold m_Waiting_meetCall_w1 m_Waiting_meetCall_w2 m_Waiting_meetCall_w3 m_Waiting_meetCall_w4 m_Waiting_meetCall_w5 m_Waiting_meetCall_w6 m_Waiting_meetCall_w7; simp only [if_pos c_1]
    rw [eW] at hP9 hD9
    exact W.vret hx hb hr (fun t9 ht hW => ⟨⟨(), rfl, trivial, by rw [ht]; exact hP9, va_K.moved hW.alike hK, hD9⟩, hS.F ht⟩) hS.2.2 d_Waiting_meetCall_39
  · refine lv_aload_n hx hb d_Waiting_meetCall_10 rfl (lv_at hl 0 rfl) ?_
    refine lv_iconst (v := 2) hx hb d_Waiting_meetCall_11 (by decide) ?_
    refine lv_iload_n hx hb d_Waiting_meetCall_12 rfl (lv_at hl 1 rfl) ?_
    refine lv_iload hx hb d_Waiting_meetCall_13 (lv_at hl 4 rfl) ?_
    refine lv_iconst (v := 0) hx hb d_Waiting_meetCall_15 (by decide) ?_
    have hPc := hP.sub (ws' := [(h0, .inr (9, [.ref q_kind, .ref q_code, .ref q_need, .ref q_strength, .ref q_base, .ref q_inputs, .ref q_body, .int q_count, .ref q_values, .int q_height, .int q_ready])), (q_kind, .inl (cI, 401, .inl q_kind_v)), (q_code, .inl (cI, 401, .inl q_code_v)), (q_need, .inl (cI, 401, .inl q_need_v)), (q_strength, .inl (cI, 401, .inl q_strength_v)), (q_base, .inl (cI, 401, .inl q_base_v))]) [0, 1, 2, 3, 4, 5] rfl
    have hDc := hD.sub (ws' := [(h0, .inr (9, [.ref q_kind, .ref q_code, .ref q_need, .ref q_strength, .ref q_base, .ref q_inputs, .ref q_body, .int q_count, .ref q_values, .int q_height, .int q_ready])), (q_kind, .inl (cI, 401, .inl q_kind_v)), (q_code, .inl (cI, 401, .inl q_code_v)), (q_need, .inl (cI, 401, .inl q_need_v)), (q_strength, .inl (cI, 401, .inl q_strength_v)), (q_base, .inl (cI, 401, .inl q_base_v))]) [0, 1, 2, 3, 4, 5] (by decide) rfl
    have hKc := hK.sub (tys' := [(cI, .int)]) [0] rfl
    have hFc := va_free (wc := [(h0, .inr (9, [.ref q_kind, .ref q_code, .ref q_need, .ref q_strength, .ref q_base, .ref q_inputs, .ref q_body, .int q_count, .ref q_values, .int q_height, .int q_ready])), (q_kind, .inl (cI, 401, .inl q_kind_v)), (q_code, .inl (cI, 401, .inl q_code_v)), (q_need, .inl (cI, 401, .inl q_need_v)), (q_strength, .inl (cI, 401, .inl q_strength_v)), (q_base, .inl (cI, 401, .inl q_base_v))]) hD hS hA [0, 1, 2, 3, 4, 5] rfl
    refine va_callv (va_runV (As := [.int 2, .int a, .int g, .int 0]) (rest := []) ⟨hx, hb, hml, hown, hts⟩ (c_Waiting_meet l dC dI s.heap.size h0 q_kind q_code q_need q_strength q_base q_inputs q_body q_count q_values q_height q_ready q_kind_v q_code_v q_need_v q_strength_v q_base_v cI 2 a g 0 (by assumption)) (cwV 4 hts (tw_GV tw_cons cw_Waiting_meet lk_Waiting_46 in_Waiting_meet sel_Waiting_meet ini_Waiting) rfl rfl rfl (by decide +kernel) ⟨Nat.le_of_ble_eq_true rfl, Nat.le_of_ble_eq_true rfl⟩) ⟨fun a U g mk q => by obtain ⟨q0, q1, qP, qK, qD⟩ := q; exact ⟨q0, q1, qP, va_K.moved (u := U) (U := U.calling g mk a) (Vm.Alike.refl U.vm) qK, qD⟩, va_recv hKc hPc (ci := 9) (q0 := 0) rfl rfl, fun U hU hW => ⟨rfl, by rw [hU], by rw [hU]; exact hPc, va_K.moved hW.alike hKc, hDc.weaken (fun _ _ _ _ => trivial)⟩⟩ rfl rfl hl.1 rfl (lv_room (Nat.le_of_ble_eq_true rfl)) d_Waiting_meetCall_16 ⟨Nat.le_of_ble_eq_true rfl, Nat.le_of_ble_eq_true rfl⟩) hS (fun q _ h => hFc q h) hFc (fun u9 t9 H1 locs ht hvm e9 hB hz1 hk1 hS => ?_)
    obtain ⟨hP1, hK1, hD1⟩ := hB
    rw [ht] at hP1
    obtain ⟨hP, hD⟩ := va_join (wr := [(q_inputs, .inl (cI, 401, .inl q_inputs_v)), (q_body, .inl (cI, 401, .inl q_body_v))]) (w1 := [(h0, .inr (9, [.ref q_kind, .ref q_code, .ref q_need, .ref q_strength, .ref q_base, .ref q_inputs, .ref q_body, .int q_count, .ref q_values, .int q_height, .int q_ready])), (q_kind, .inl (cI, 401, .inl (m_Waiting_meet_w1 q_count q_kind_v 2))), (q_code, .inl (cI, 401, .inl (m_Waiting_meet_w2 q_count q_code_v a))), (q_need, .inl (cI, 401, .inl (m_Waiting_meet_w3 q_count q_need_v g))), (q_strength, .inl (cI, 401, .inl (m_Waiting_meet_w4 q_count q_strength_v 0))), (q_base, .inl (cI, 401, .inl (m_Waiting_meet_w5 q_count q_height q_base_v)))]) hP hD [0, 1, 2, 3, 4, 5] [6, 7] rfl rfl (by decide) (by decide) hk1 hFc hP1 hD1
    clear hP1 hD1 hK1 hvm hz1 hk1 hFc hKc hDc hPc
    subst ht
    generalize t9.heap = H at hP hS ⊢
    have hP : va_P (dC, dI) classes [(q_inputs, .inl (cI, 401, .inl q_inputs_v)), (q_body, .inl (cI, 401, .inl q_body_v)), (h0, .inr (9, [.ref q_kind, .ref q_code, .ref q_need, .ref q_strength, .ref q_base, .ref q_inputs, .ref q_body, .int q_count, .ref q_values, .int q_height, .int q_ready])), (q_kind, .inl (cI, 401, .inl (m_Waiting_meet_w1 q_count q_kind_v 2))), (q_code, .inl (cI, 401, .inl (m_Waiting_meet_w2 q_count q_code_v a))), (q_need, .inl (cI, 401, .inl (m_Waiting_meet_w3 q_count q_need_v g))), (q_strength, .inl (cI, 401, .inl (m_Waiting_meet_w4 q_count q_strength_v 0))), (q_base, .inl (cI, 401, .inl (m_Waiting_meet_w5 q_count q_height q_base_v)))] H := hP
    have hD : va_D A [(q_inputs, .inl (cI, 401, .inl q_inputs_v)), (q_body, .inl (cI, 401, .inl q_body_v)), (h0, .inr (9, [.ref q_kind, .ref q_code, .ref q_need, .ref q_strength, .ref q_base, .ref q_inputs, .ref q_body, .int q_count, .ref q_values, .int q_height, .int q_ready])), (q_kind, .inl (cI, 401, .inl (m_Waiting_meet_w1 q_count q_kind_v 2))), (q_code, .inl (cI, 401, .inl (m_Waiting_meet_w2 q_count q_code_v a))), (q_need, .inl (cI, 401, .inl (m_Waiting_meet_w3 q_count q_need_v g))), (q_strength, .inl (cI, 401, .inl (m_Waiting_meet_w4 q_count q_strength_v 0))), (q_base, .inl (cI, 401, .inl (m_Waiting_meet_w5 q_count q_height q_base_v)))] := hD
    refine lv_aload_n hx hb d_Waiting_meetCall_19 rfl (lv_at hl 0 rfl) ?_
    refine va_get (D := (dC, dI)) (ci := 9) (v := .ref q_inputs) (C := R_Waiting) (T := F_Waiting) (N := 11) hx hb htt iw_Waiting hown hK hP 2 rfl rfl 5 (by decide) (htt _ lk_Waiting_27) (fun _ h9 => h9) rfl d_Waiting_meetCall_20 ?_
    refine lv_aload_n hx hb d_Waiting_meetCall_23 rfl (lv_at hl 0 rfl) ?_
    refine va_get (D := (dC, dI)) (ci := 9) (v := .int q_count) (C := R_Waiting) (T := F_Waiting) (N := 11) hx hb htt iw_Waiting hown hK hP 2 rfl rfl 7 (by decide) (htt _ lk_Waiting_36) (fun _ h9 => h9) rfl d_Waiting_meetCall_24 ?_
    refine lv_iload_n hx hb d_Waiting_meetCall_27 rfl (lv_at hl 2 rfl) ?_
    have h_2 : vp_in q_count 401 := by rw [vp_in_iff]; simp only [Int32.lt_iff_toInt_lt, Int32.le_iff_toInt_le, Int32.reduceToInt] at c_1 hc ⊢; omega
    refine va_iast hx hb hK hP hD hS 0 0 rfl rfl h_2 d_Waiting_meetCall_28 (fun H locs hP hD hS => ?_)
    have hP : va_P (dC, dI) classes [(q_inputs, .inl (cI, 401, .inl (upd q_inputs_v q_count.toNatClampNeg b))), (q_body, .inl (cI, 401, .inl q_body_v)), (h0, .inr (9, [.ref q_kind, .ref q_code, .ref q_need, .ref q_strength, .ref q_base, .ref q_inputs, .ref q_body, .int q_count, .ref q_values, .int q_height, .int q_ready])), (q_kind, .inl (cI, 401, .inl (m_Waiting_meet_w1 q_count q_kind_v 2))), (q_code, .inl (cI, 401, .inl (m_Waiting_meet_w2 q_count q_code_v a))), (q_need, .inl (cI, 401, .inl (m_Waiting_meet_w3 q_count q_need_v g))), (q_strength, .inl (cI, 401, .inl (m_Waiting_meet_w4 q_count q_strength_v 0))), (q_base, .inl (cI, 401, .inl (m_Waiting_meet_w5 q_count q_height q_base_v)))] H := hP
    have hD : va_D A [(q_inputs, .inl (cI, 401, .inl (upd q_inputs_v q_count.toNatClampNeg b))), (q_body, .inl (cI, 401, .inl q_body_v)), (h0, .inr (9, [.ref q_kind, .ref q_code, .ref q_need, .ref q_strength, .ref q_base, .ref q_inputs, .ref q_body, .int q_count, .ref q_values, .int q_height, .int q_ready])), (q_kind, .inl (cI, 401, .inl (m_Waiting_meet_w1 q_count q_kind_v 2))), (q_code, .inl (cI, 401, .inl (m_Waiting_meet_w2 q_count q_code_v a))), (q_need, .inl (cI, 401, .inl (m_Waiting_meet_w3 q_count q_need_v g))), (q_strength, .inl (cI, 401, .inl (m_Waiting_meet_w4 q_count q_strength_v 0))), (q_base, .inl (cI, 401, .inl (m_Waiting_meet_w5 q_count q_height q_base_v)))] := hD
    refine lv_aload_n hx hb d_Waiting_meetCall_29 rfl (lv_at hl 0 rfl) ?_
    refine va_get (D := (dC, dI)) (ci := 9) (v := .ref q_body) (C := R_Waiting) (T := F_Waiting) (N := 11) hx hb htt iw_Waiting hown hK hP 2 rfl rfl 6 (by decide) (htt _ lk_Waiting_30) (fun _ h9 => h9) rfl d_Waiting_meetCall_30 ?_
    refine lv_aload_n hx hb d_Waiting_meetCall_33 rfl (lv_at hl 0 rfl) ?_
    refine va_get (D := (dC, dI)) (ci := 9) (v := .int q_count) (C := R_Waiting) (T := F_Waiting) (N := 11) hx hb htt iw_Waiting hown hK hP 2 rfl rfl 7 (by decide) (htt _ lk_Waiting_36) (fun _ h9 => h9) rfl d_Waiting_meetCall_34 ?_
    refine lv_iload_n hx hb d_Waiting_meetCall_37 rfl (lv_at hl 3 rfl) ?_
    have h_3 : vp_in q_count 401 := by rw [vp_in_iff]; simp only [Int32.lt_iff_toInt_lt, Int32.le_iff_toInt_le, Int32.reduceToInt] at c_1 hc ⊢; omega
    refine va_iast hx hb hK hP hD hS 1 0 rfl rfl h_3 d_Waiting_meetCall_38 (fun H locs hP hD hS => ?_)
    have hP : va_P (dC, dI) classes [(q_inputs, .inl (cI, 401, .inl (upd q_inputs_v q_count.toNatClampNeg b))), (q_body, .inl (cI, 401, .inl (upd q_body_v q_count.toNatClampNeg d))), (h0, .inr (9, [.ref q_kind, .ref q_code, .ref q_need, .ref q_strength, .ref q_base, .ref q_inputs, .ref q_body, .int q_count, .ref q_values, .int q_height, .int q_ready])), (q_kind, .inl (cI, 401, .inl (m_Waiting_meet_w1 q_count q_kind_v 2))), (q_code, .inl (cI, 401, .inl (m_Waiting_meet_w2 q_count q_code_v a))), (q_need, .inl (cI, 401, .inl (m_Waiting_meet_w3 q_count q_need_v g))), (q_strength, .inl (cI, 401, .inl (m_Waiting_meet_w4 q_count q_strength_v 0))), (q_base, .inl (cI, 401, .inl (m_Waiting_meet_w5 q_count q_height q_base_v)))] H := hP
    have hD : va_D A [(q_inputs, .inl (cI, 401, .inl (upd q_inputs_v q_count.toNatClampNeg b))), (q_body, .inl (cI, 401, .inl (upd q_body_v q_count.toNatClampNeg d))), (h0, .inr (9, [.ref q_kind, .ref q_code, .ref q_need, .ref q_strength, .ref q_base, .ref q_inputs, .ref q_body, .int q_count, .ref q_values, .int q_height, .int q_ready])), (q_kind, .inl (cI, 401, .inl (m_Waiting_meet_w1 q_count q_kind_v 2))), (q_code, .inl (cI, 401, .inl (m_Waiting_meet_w2 q_count q_code_v a))), (q_need, .inl (cI, 401, .inl (m_Waiting_meet_w3 q_count q_need_v g))), (q_strength, .inl (cI, 401, .inl (m_Waiting_meet_w4 q_count q_strength_v 0))), (q_base, .inl (cI, 401, .inl (m_Waiting_meet_w5 q_count q_height q_base_v)))] := hD
    have hP9 := hP.sub (ws' := [(h0, .inr (9, [.ref q_kind, .ref q_code, .ref q_need, .ref q_strength, .ref q_base, .ref q_inputs, .ref q_body, .int q_count, .ref q_values, .int q_height, .int q_ready])), (q_kind, .inl (cI, 401, .inl (m_Waiting_meet_w1 q_count q_kind_v 2))), (q_code, .inl (cI, 401, .inl (m_Waiting_meet_w2 q_count q_code_v a))), (q_need, .inl (cI, 401, .inl (m_Waiting_meet_w3 q_count q_need_v g))), (q_strength, .inl (cI, 401, .inl (m_Waiting_meet_w4 q_count q_strength_v 0))), (q_base, .inl (cI, 401, .inl (m_Waiting_meet_w5 q_count q_height q_base_v))), (q_inputs, .inl (cI, 401, .inl (upd q_inputs_v q_count.toNatClampNeg b))), (q_body, .inl (cI, 401, .inl (upd q_body_v q_count.toNatClampNeg d)))]) [2, 3, 4, 5, 6, 7, 0, 1] rfl
    have hD9 := hD.sub (ws' := [(h0, .inr (9, [.ref q_kind, .ref q_code, .ref q_need, .ref q_strength, .ref q_base, .ref q_inputs, .ref q_body, .int q_count, .ref q_values, .int q_height, .int q_ready])), (q_kind, .inl (cI, 401, .inl (m_Waiting_meet_w1 q_count q_kind_v 2))), (q_code, .inl (cI, 401, .inl (m_Waiting_meet_w2 q_count q_code_v a))), (q_need, .inl (cI, 401, .inl (m_Waiting_meet_w3 q_count q_need_v g))), (q_strength, .inl (cI, 401, .inl (m_Waiting_meet_w4 q_count q_strength_v 0))), (q_base, .inl (cI, 401, .inl (m_Waiting_meet_w5 q_count q_height q_base_v))), (q_inputs, .inl (cI, 401, .inl (upd q_inputs_v q_count.toNatClampNeg b))), (q_body, .inl (cI, 401, .inl (upd q_body_v q_count.toNatClampNeg d)))]) [2, 3, 4, 5, 6, 7, 0, 1] (by decide) rfl
    have eW : [(h0, .inr (9, [.ref q_kind, .ref q_code, .ref q_need, .ref q_strength, .ref q_base, .ref q_inputs, .ref q_body, .int q_count, .ref q_values, .int q_height, .int q_ready])), (q_kind, .inl (cI, 401, .inl (m_Waiting_meet_w1 q_count q_kind_v 2))), (q_code, .inl (cI, 401, .inl (m_Waiting_meet_w2 q_count q_code_v a))), (q_need, .inl (cI, 401, .inl (m_Waiting_meet_w3 q_count q_need_v g))), (q_strength, .inl (cI, 401, .inl (m_Waiting_meet_w4 q_count q_strength_v 0))), (q_base, .inl (cI, 401, .inl (m_Waiting_meet_w5 q_count q_height q_base_v))), (q_inputs, .inl (cI, 401, .inl (upd q_inputs_v q_count.toNatClampNeg b))), (q_body, .inl (cI, 401, .inl (upd q_body_v q_count.toNatClampNeg d)))] = ([(h0, .inr (9, [.ref q_kind, .ref q_code, .ref q_need, .ref q_strength, .ref q_base, .ref q_inputs, .ref q_body, .int q_count, .ref q_values, .int q_height, .int q_ready])), (q_kind, .inl (cI, 401, .inl (m_Waiting_meetCall_w1 q_count q_kind_v))), (q_code, .inl (cI, 401, .inl (m_Waiting_meetCall_w2 q_count q_code_v a))), (q_need, .inl (cI, 401, .inl (m_Waiting_meetCall_w3 q_count q_need_v g))), (q_strength, .inl (cI, 401, .inl (m_Waiting_meetCall_w4 q_count q_strength_v))), (q_base, .inl (cI, 401, .inl (m_Waiting_meetCall_w5 q_count q_height q_base_v))), (q_inputs, .inl (cI, 401, .inl (m_Waiting_meetCall_w6 q_count q_inputs_v b))), (q_body, .inl (cI, 401, .inl (m_Waiting_meetCall_w7 q_count q_body_v d)))] : va_W) := by unfold m_Waiting_meetCall_w1 m_Waiting_meetCall_w2 m_Waiting_meetCall_w3 m_Waiting_meetCall_w4 m_Waiting_meetCall_w5 m_Waiting_meetCall_w6 m_Waiting_meetCall_w7; simp only [if_neg c_1]
    rw [eW] at hP9 hD9
    exact W.vret hx hb hr (fun t9 ht hW => ⟨⟨(), rfl, trivial, by rw [ht]; exact hP9, va_K.moved hW.alike hK, hD9⟩, hS.F ht⟩) hS.2.2 d_Waiting_meetCall_39

def m_Waiting_settleLast_r (q_count : Int32) (q_need_v : Nat → Int32) : Int32 := if ((400 : Int32)) < q_count then if q_count < ((400 : Int32)) then (-2147483584) else (-2147483642) else if ((q_need_v q_count.toNatClampNeg)) = ((0 : Int32)) then (-2147483584) else if q_count < ((400 : Int32)) then (-2147483584) else (-2147483642)
def m_Waiting_settleLast_w0_7 (q_count : Int32) (q_need_v : Nat → Int32) : Int32 := if ((400 : Int32)) < q_count then if q_count < ((400 : Int32)) then (q_count + 1) else q_count else if ((q_need_v q_count.toNatClampNeg)) = ((0 : Int32)) then q_count else if q_count < ((400 : Int32)) then (q_count + 1) else q_count
def m_Waiting_settleLast_w0_10 (q_count : Int32) (q_ready : Int32) (q_kind_v : Nat → Int32) (q_need_v : Nat → Int32) : Int32 := if ((400 : Int32)) < q_count then if q_count < ((400 : Int32)) then q_ready else q_ready else if ((q_need_v q_count.toNatClampNeg)) = ((0 : Int32)) then (q_kind_v q_count.toNatClampNeg) else if q_count < ((400 : Int32)) then q_ready else q_ready
set_option maxHeartbeats 4000000 in
set_option maxRecDepth 100000 in
theorem c_Waiting_settleLast (l : Launch) (dC : Nat → ClassId) (dI : Nat → Nat → Nat) (sz : Nat) (h0 : Nat) (q_kind : Nat) (q_code : Nat) (q_need : Nat) (q_strength : Nat) (q_base : Nat) (q_inputs : Nat) (q_body : Nat) (q_count : Int32) (q_values : Nat) (q_height : Int32) (q_ready : Int32) (q_kind_v : Nat → Int32) (q_need_v : Nat → Int32) (cI : ClassId) (hc : ¬ q_count < 0) : Met l y_Waiting_settleLast w_Waiting_settleLast ({ frames := 0, cells := 0, slots := 0, locals := 0 }) (va_Pc [.ref h0] (fun U => U.heap.size = sz ∧ va_P (dC, dI) classes [(h0, .inr (9, [.ref q_kind, .ref q_code, .ref q_need, .ref q_strength, .ref q_base, .ref q_inputs, .ref q_body, .int q_count, .ref q_values, .int q_height, .int q_ready])), (q_kind, .inl (cI, 401, .inl q_kind_v)), (q_need, .inl (cI, 401, .inl q_need_v))] U.heap ∧ va_K (dC, dI) classes [(cI, .int)] U ∧ va_D (fun _ => True) [(h0, .inr (9, [.ref q_kind, .ref q_code, .ref q_need, .ref q_strength, .ref q_base, .ref q_inputs, .ref q_body, .int q_count, .ref q_values, .int q_height, .int q_ready])), (q_kind, .inl (cI, 401, .inl q_kind_v)), (q_need, .inl (cI, 401, .inl q_need_v))])) (va_Qi (fun (r : Int32) (_ : Unit) => r = m_Waiting_settleLast_r q_count q_need_v) (fun (_ : Unit) t => va_P (dC, dI) classes [(h0, .inr (9, [.ref q_kind, .ref q_code, .ref q_need, .ref q_strength, .ref q_base, .ref q_inputs, .ref q_body, .int (m_Waiting_settleLast_w0_7 q_count q_need_v), .ref q_values, .int q_height, .int (m_Waiting_settleLast_w0_10 q_count q_ready q_kind_v q_need_v)])), (q_kind, .inl (cI, 401, .inl q_kind_v)), (q_need, .inl (cI, 401, .inl q_need_v))] t.heap ∧ va_K (dC, dI) classes [(cI, .int)] t ∧ va_D (va_A [(h0, .inr (9, [.ref q_kind, .ref q_code, .ref q_need, .ref q_strength, .ref q_base, .ref q_inputs, .ref q_body, .int q_count, .ref q_values, .int q_height, .int q_ready])), (q_kind, .inl (cI, 401, .inl q_kind_v)), (q_need, .inl (cI, 401, .inl q_need_v))] sz) [(h0, .inr (9, [.ref q_kind, .ref q_code, .ref q_need, .ref q_strength, .ref q_base, .ref q_inputs, .ref q_body, .int (m_Waiting_settleLast_w0_7 q_count q_need_v), .ref q_values, .int q_height, .int (m_Waiting_settleLast_w0_10 q_count q_ready q_kind_v q_need_v)])), (q_kind, .inl (cI, 401, .inl q_kind_v)), (q_need, .inl (cI, 401, .inl q_need_v))]) (va_A [(h0, .inr (9, [.ref q_kind, .ref q_code, .ref q_need, .ref q_strength, .ref q_base, .ref q_inputs, .ref q_body, .int q_count, .ref q_values, .int q_height, .int q_ready])), (q_kind, .inl (cI, 401, .inl q_kind_v)), (q_need, .inl (cI, 401, .inl q_need_v))] sz)) 0 0 (va_A [(h0, .inr (9, [.ref q_kind, .ref q_code, .ref q_need, .ref q_strength, .ref q_base, .ref q_inputs, .ref q_body, .int q_count, .ref q_values, .int q_height, .int q_ready])), (q_kind, .inl (cI, 401, .inl q_kind_v)), (q_need, .inl (cI, 401, .inl q_need_v))] sz) := by
  refine Met.ofW (cc := b_Waiting_settleLast) (maxL := 1) (ret := (some .int)) (by decide) rfl ?_
  intro p e s m args below meth c s₁ B hml hv
  obtain ⟨rfl, hsz, hP, hK, hD0⟩ := hv
  have hx := B.exec
  have hb := B.bytes
  have hr := B.returns
  have hts := atoms_spec (ws := w_Waiting_settleLast) B.pre
  have htt : ∀ w ∈ tw_T, w.before _ s = true := fun w h => hts w (List.mem_cons_of_mem _ h)
  have hown : s.vm.findClass R_Waiting = some m.cls := findClass_of_methodNamed B.named
  have hlocks := B.notSynchronized
  subst hsz
  have hD := hD0.self (sz := s.heap.size)
  generalize hAe : va_A [(h0, .inr (9, [.ref q_kind, .ref q_code, .ref q_need, .ref q_strength, .ref q_base, .ref q_inputs, .ref q_body, .int q_count, .ref q_values, .int q_height, .int q_ready])), (q_kind, .inl (cI, 401, .inl q_kind_v)), (q_need, .inl (cI, 401, .inl q_need_v))] s.heap.size = A at hD ⊢
  have hA : ∀ q : Nat, s.heap.size ≤ q → A q := fun q h => by rw [← hAe]; exact Or.inr h
  have hS : va_S A s.heap s.heap [] := va_S.rf
  have hP : va_P (dC, dI) classes [(h0, .inr (9, [.ref q_kind, .ref q_code, .ref q_need, .ref q_strength, .ref q_base, .ref q_inputs, .ref q_body, .int q_count, .ref q_values, .int q_height, .int q_ready])), (q_kind, .inl (cI, 401, .inl q_kind_v)), (q_need, .inl (cI, 401, .inl q_need_v))] s.heap := hP
  have hl := lv_entry ([.ref h0]) (n := 1) (Nat.le_of_ble_eq_true rfl)
  rw [lg_entry_eq]
  generalize (lg_sl ([.ref h0]) ++ List.replicate (1 - (lg_sl ([.ref h0])).length) Slot.unset).toArray = ls at hl ⊢
  have hl : lv_has ls 1 [(0, .ref h0)] := hl
  refine lv_aload_n hx hb d_Waiting_settleLast_0 rfl (lv_at hl 0 rfl) ?_
  refine va_get (D := (dC, dI)) (ci := 9) (v := .int q_count) (C := R_Waiting) (T := F_Waiting) (N := 11) hx hb htt iw_Waiting hown hK hP 0 rfl rfl 7 (by decide) (htt _ lk_Waiting_36) (fun _ h9 => h9) rfl d_Waiting_settleLast_1 ?_
  refine lv_sipush (v := 400) hx hb d_Waiting_settleLast_4 (by decide) ?_
  refine lv_icmp_gt (tgt := 38) hx hb d_Waiting_settleLast_7 (by decide) (fun c_1 => ?_) (fun c_1 => ?_)
  · refine lv_aload_n hx hb d_Waiting_settleLast_38 rfl (lv_at hl 0 rfl) ?_
    refine va_get (D := (dC, dI)) (ci := 9) (v := .int q_count) (C := R_Waiting) (T := F_Waiting) (N := 11) hx hb htt iw_Waiting hown hK hP 0 rfl rfl 7 (by decide) (htt _ lk_Waiting_36) (fun _ h9 => h9) rfl d_Waiting_settleLast_39 ?_
    refine lv_sipush (v := 400) hx hb d_Waiting_settleLast_42 (by decide) ?_
    refine lv_icmp_lt (tgt := 51) hx hb d_Waiting_settleLast_45 (by decide) (fun c_2 => ?_) (fun c_2 => ?_)
    · refine lv_aload_n hx hb d_Waiting_settleLast_51 rfl (lv_at hl 0 rfl) ?_
      refine lv_dup hx hb d_Waiting_settleLast_52 rfl ?_
      refine va_get (D := (dC, dI)) (ci := 9) (v := .int q_count) (C := R_Waiting) (T := F_Waiting) (N := 11) hx hb htt iw_Waiting hown hK hP 0 rfl rfl 7 (by decide) (htt _ lk_Waiting_36) (fun _ h9 => h9) rfl d_Waiting_settleLast_53 ?_
      refine lv_iconst (v := 1) hx hb d_Waiting_settleLast_56 (by decide) ?_
      refine lv_iadd hx hb d_Waiting_settleLast_57 ?_
      refine lv_topi (fun x_3 ex_3 => ?_)
      refine va_put (D := (dC, dI)) (ci := 9) (v := .int x_3) (ty := .int) (C := R_Waiting) (T := F_Waiting) (N := 11) hx hb htt iw_Waiting t_Waiting t_Waiting_ok n_Waiting hown hK hP hD hS 0 rfl rfl 7 (by decide) (htt _ lk_Waiting_36) (fun _ h9 => h9) rfl (by decide +kernel) rfl rfl (Nat.le_of_ble_eq_true rfl) d_Waiting_settleLast_58 (fun H locs hP hD hS => ?_)
      have hP : va_P (dC, dI) classes [(h0, .inr (9, [.ref q_kind, .ref q_code, .ref q_need, .ref q_strength, .ref q_base, .ref q_inputs, .ref q_body, .int x_3, .ref q_values, .int q_height, .int q_ready])), (q_kind, .inl (cI, 401, .inl q_kind_v)), (q_need, .inl (cI, 401, .inl q_need_v))] H := hP
      have hD : va_D A [(h0, .inr (9, [.ref q_kind, .ref q_code, .ref q_need, .ref q_strength, .ref q_base, .ref q_inputs, .ref q_body, .int x_3, .ref q_values, .int q_height, .int q_ready])), (q_kind, .inl (cI, 401, .inl q_kind_v)), (q_need, .inl (cI, 401, .inl q_need_v))] := hD
      refine lv_ldc (v := (-2147483584)) hx hb hown (htt _ lk_Waiting_50) d_Waiting_settleLast_61 ?_
      subst ex_3
      have hP9 := hP.sub (ws' := [(h0, .inr (9, [.ref q_kind, .ref q_code, .ref q_need, .ref q_strength, .ref q_base, .ref q_inputs, .ref q_body, .int ((q_count + 1)), .ref q_values, .int q_height, .int q_ready])), (q_kind, .inl (cI, 401, .inl q_kind_v)), (q_need, .inl (cI, 401, .inl q_need_v))]) [0, 1, 2] rfl
      have hD9 := hD.sub (ws' := [(h0, .inr (9, [.ref q_kind, .ref q_code, .ref q_need, .ref q_strength, .ref q_base, .ref q_inputs, .ref q_body, .int ((q_count + 1)), .ref q_values, .int q_height, .int q_ready])), (q_kind, .inl (cI, 401, .inl q_kind_v)), (q_need, .inl (cI, 401, .inl q_need_v))]) [0, 1, 2] (by decide) rfl
      have eW : [(h0, .inr (9, [.ref q_kind, .ref q_code, .ref q_need, .ref q_strength, .ref q_base, .ref q_inputs, .ref q_body, .int ((q_count + 1)), .ref q_values, .int q_height, .int q_ready])), (q_kind, .inl (cI, 401, .inl q_kind_v)), (q_need, .inl (cI, 401, .inl q_need_v))] = ([(h0, .inr (9, [.ref q_kind, .ref q_code, .ref q_need, .ref q_strength, .ref q_base, .ref q_inputs, .ref q_body, .int (m_Waiting_settleLast_w0_7 q_count q_need_v), .ref q_values, .int q_height, .int (m_Waiting_settleLast_w0_10 q_count q_ready q_kind_v q_need_v)])), (q_kind, .inl (cI, 401, .inl q_kind_v)), (q_need, .inl (cI, 401, .inl q_need_v))] : va_W) := by unfold m_Waiting_settleLast_w0_7 m_Waiting_settleLast_w0_10; simp only [if_pos c_1, if_pos c_2]
      rw [eW] at hP9 hD9
      exact W.iret (v := (-2147483584)) hx hb hr (fun t9 ht hW => ⟨⟨(-2147483584), (), rfl, by unfold m_Waiting_settleLast_r; simp only [if_pos c_1, if_pos c_2], by rw [ht]; exact hP9, va_K.moved hW.alike hK, hD9⟩, hS.F ht⟩) hS.2.2 d_Waiting_settleLast_63
    · refine lv_ldc (v := (-2147483642)) hx hb hown (htt _ lk_Waiting_51) d_Waiting_settleLast_48 ?_
      have hP9 := hP.sub (ws' := [(h0, .inr (9, [.ref q_kind, .ref q_code, .ref q_need, .ref q_strength, .ref q_base, .ref q_inputs, .ref q_body, .int q_count, .ref q_values, .int q_height, .int q_ready])), (q_kind, .inl (cI, 401, .inl q_kind_v)), (q_need, .inl (cI, 401, .inl q_need_v))]) [0, 1, 2] rfl
      have hD9 := hD.sub (ws' := [(h0, .inr (9, [.ref q_kind, .ref q_code, .ref q_need, .ref q_strength, .ref q_base, .ref q_inputs, .ref q_body, .int q_count, .ref q_values, .int q_height, .int q_ready])), (q_kind, .inl (cI, 401, .inl q_kind_v)), (q_need, .inl (cI, 401, .inl q_need_v))]) [0, 1, 2] (by decide) rfl
      have eW : [(h0, .inr (9, [.ref q_kind, .ref q_code, .ref q_need, .ref q_strength, .ref q_base, .ref q_inputs, .ref q_body, .int q_count, .ref q_values, .int q_height, .int q_ready])), (q_kind, .inl (cI, 401, .inl q_kind_v)), (q_need, .inl (cI, 401, .inl q_need_v))] = ([(h0, .inr (9, [.ref q_kind, .ref q_code, .ref q_need, .ref q_strength, .ref q_base, .ref q_inputs, .ref q_body, .int (m_Waiting_settleLast_w0_7 q_count q_need_v), .ref q_values, .int q_height, .int (m_Waiting_settleLast_w0_10 q_count q_ready q_kind_v q_need_v)])), (q_kind, .inl (cI, 401, .inl q_kind_v)), (q_need, .inl (cI, 401, .inl q_need_v))] : va_W) := by unfold m_Waiting_settleLast_w0_7 m_Waiting_settleLast_w0_10; simp only [if_pos c_1, if_neg c_2]
      rw [eW] at hP9 hD9
      exact W.iret (v := (-2147483642)) hx hb hr (fun t9 ht hW => ⟨⟨(-2147483642), (), rfl, by unfold m_Waiting_settleLast_r; simp only [if_pos c_1, if_neg c_2], by rw [ht]; exact hP9, va_K.moved hW.alike hK, hD9⟩, hS.F ht⟩) hS.2.2 d_Waiting_settleLast_50
  · refine lv_aload_n hx hb d_Waiting_settleLast_10 rfl (lv_at hl 0 rfl) ?_
    refine va_get (D := (dC, dI)) (ci := 9) (v := .ref q_need) (C := R_Waiting) (T := F_Waiting) (N := 11) hx hb htt iw_Waiting hown hK hP 0 rfl rfl 2 (by decide) (htt _ lk_Waiting_18) (fun _ h9 => h9) rfl d_Waiting_settleLast_11 ?_
    refine lv_aload_n hx hb d_Waiting_settleLast_14 rfl (lv_at hl 0 rfl) ?_
    refine va_get (D := (dC, dI)) (ci := 9) (v := .int q_count) (C := R_Waiting) (T := F_Waiting) (N := 11) hx hb htt iw_Waiting hown hK hP 0 rfl rfl 7 (by decide) (htt _ lk_Waiting_36) (fun _ h9 => h9) rfl d_Waiting_settleLast_15 ?_
    have h_4 : vp_in q_count 401 := by rw [vp_in_iff]; simp only [Int32.lt_iff_toInt_lt, Int32.le_iff_toInt_le, Int32.reduceToInt] at c_1 hc ⊢; omega
    refine va_iald hx hb hK hP 2 0 rfl rfl h_4 d_Waiting_settleLast_18 ?_
    refine lv_if_ne (tgt := 38) hx hb d_Waiting_settleLast_19 (by decide) (fun c_5 => ?_) (fun c_5 => ?_)
    · refine lv_aload_n hx hb d_Waiting_settleLast_38 rfl (lv_at hl 0 rfl) ?_
      refine va_get (D := (dC, dI)) (ci := 9) (v := .int q_count) (C := R_Waiting) (T := F_Waiting) (N := 11) hx hb htt iw_Waiting hown hK hP 0 rfl rfl 7 (by decide) (htt _ lk_Waiting_36) (fun _ h9 => h9) rfl d_Waiting_settleLast_39 ?_
      refine lv_sipush (v := 400) hx hb d_Waiting_settleLast_42 (by decide) ?_
      refine lv_icmp_lt (tgt := 51) hx hb d_Waiting_settleLast_45 (by decide) (fun c_6 => ?_) (fun c_6 => ?_)
      · refine lv_aload_n hx hb d_Waiting_settleLast_51 rfl (lv_at hl 0 rfl) ?_
        refine lv_dup hx hb d_Waiting_settleLast_52 rfl ?_
        refine va_get (D := (dC, dI)) (ci := 9) (v := .int q_count) (C := R_Waiting) (T := F_Waiting) (N := 11) hx hb htt iw_Waiting hown hK hP 0 rfl rfl 7 (by decide) (htt _ lk_Waiting_36) (fun _ h9 => h9) rfl d_Waiting_settleLast_53 ?_
        refine lv_iconst (v := 1) hx hb d_Waiting_settleLast_56 (by decide) ?_
        refine lv_iadd hx hb d_Waiting_settleLast_57 ?_
        refine lv_topi (fun x_7 ex_7 => ?_)
        refine va_put (D := (dC, dI)) (ci := 9) (v := .int x_7) (ty := .int) (C := R_Waiting) (T := F_Waiting) (N := 11) hx hb htt iw_Waiting t_Waiting t_Waiting_ok n_Waiting hown hK hP hD hS 0 rfl rfl 7 (by decide) (htt _ lk_Waiting_36) (fun _ h9 => h9) rfl (by decide +kernel) rfl rfl (Nat.le_of_ble_eq_true rfl) d_Waiting_settleLast_58 (fun H locs hP hD hS => ?_)
        have hP : va_P (dC, dI) classes [(h0, .inr (9, [.ref q_kind, .ref q_code, .ref q_need, .ref q_strength, .ref q_base, .ref q_inputs, .ref q_body, .int x_7, .ref q_values, .int q_height, .int q_ready])), (q_kind, .inl (cI, 401, .inl q_kind_v)), (q_need, .inl (cI, 401, .inl q_need_v))] H := hP
        have hD : va_D A [(h0, .inr (9, [.ref q_kind, .ref q_code, .ref q_need, .ref q_strength, .ref q_base, .ref q_inputs, .ref q_body, .int x_7, .ref q_values, .int q_height, .int q_ready])), (q_kind, .inl (cI, 401, .inl q_kind_v)), (q_need, .inl (cI, 401, .inl q_need_v))] := hD
        refine lv_ldc (v := (-2147483584)) hx hb hown (htt _ lk_Waiting_50) d_Waiting_settleLast_61 ?_
        subst ex_7
        have hP9 := hP.sub (ws' := [(h0, .inr (9, [.ref q_kind, .ref q_code, .ref q_need, .ref q_strength, .ref q_base, .ref q_inputs, .ref q_body, .int ((q_count + 1)), .ref q_values, .int q_height, .int q_ready])), (q_kind, .inl (cI, 401, .inl q_kind_v)), (q_need, .inl (cI, 401, .inl q_need_v))]) [0, 1, 2] rfl
        have hD9 := hD.sub (ws' := [(h0, .inr (9, [.ref q_kind, .ref q_code, .ref q_need, .ref q_strength, .ref q_base, .ref q_inputs, .ref q_body, .int ((q_count + 1)), .ref q_values, .int q_height, .int q_ready])), (q_kind, .inl (cI, 401, .inl q_kind_v)), (q_need, .inl (cI, 401, .inl q_need_v))]) [0, 1, 2] (by decide) rfl
        have eW : [(h0, .inr (9, [.ref q_kind, .ref q_code, .ref q_need, .ref q_strength, .ref q_base, .ref q_inputs, .ref q_body, .int ((q_count + 1)), .ref q_values, .int q_height, .int q_ready])), (q_kind, .inl (cI, 401, .inl q_kind_v)), (q_need, .inl (cI, 401, .inl q_need_v))] = ([(h0, .inr (9, [.ref q_kind, .ref q_code, .ref q_need, .ref q_strength, .ref q_base, .ref q_inputs, .ref q_body, .int (m_Waiting_settleLast_w0_7 q_count q_need_v), .ref q_values, .int q_height, .int (m_Waiting_settleLast_w0_10 q_count q_ready q_kind_v q_need_v)])), (q_kind, .inl (cI, 401, .inl q_kind_v)), (q_need, .inl (cI, 401, .inl q_need_v))] : va_W) := by unfold m_Waiting_settleLast_w0_7 m_Waiting_settleLast_w0_10; simp only [if_neg c_1, if_neg c_5, if_pos c_6]
        rw [eW] at hP9 hD9
        exact W.iret (v := (-2147483584)) hx hb hr (fun t9 ht hW => ⟨⟨(-2147483584), (), rfl, by unfold m_Waiting_settleLast_r; simp only [if_neg c_1, if_neg c_5, if_pos c_6], by rw [ht]; exact hP9, va_K.moved hW.alike hK, hD9⟩, hS.F ht⟩) hS.2.2 d_Waiting_settleLast_63
      · refine lv_ldc (v := (-2147483642)) hx hb hown (htt _ lk_Waiting_51) d_Waiting_settleLast_48 ?_
        have hP9 := hP.sub (ws' := [(h0, .inr (9, [.ref q_kind, .ref q_code, .ref q_need, .ref q_strength, .ref q_base, .ref q_inputs, .ref q_body, .int q_count, .ref q_values, .int q_height, .int q_ready])), (q_kind, .inl (cI, 401, .inl q_kind_v)), (q_need, .inl (cI, 401, .inl q_need_v))]) [0, 1, 2] rfl
        have hD9 := hD.sub (ws' := [(h0, .inr (9, [.ref q_kind, .ref q_code, .ref q_need, .ref q_strength, .ref q_base, .ref q_inputs, .ref q_body, .int q_count, .ref q_values, .int q_height, .int q_ready])), (q_kind, .inl (cI, 401, .inl q_kind_v)), (q_need, .inl (cI, 401, .inl q_need_v))]) [0, 1, 2] (by decide) rfl
        have eW : [(h0, .inr (9, [.ref q_kind, .ref q_code, .ref q_need, .ref q_strength, .ref q_base, .ref q_inputs, .ref q_body, .int q_count, .ref q_values, .int q_height, .int q_ready])), (q_kind, .inl (cI, 401, .inl q_kind_v)), (q_need, .inl (cI, 401, .inl q_need_v))] = ([(h0, .inr (9, [.ref q_kind, .ref q_code, .ref q_need, .ref q_strength, .ref q_base, .ref q_inputs, .ref q_body, .int (m_Waiting_settleLast_w0_7 q_count q_need_v), .ref q_values, .int q_height, .int (m_Waiting_settleLast_w0_10 q_count q_ready q_kind_v q_need_v)])), (q_kind, .inl (cI, 401, .inl q_kind_v)), (q_need, .inl (cI, 401, .inl q_need_v))] : va_W) := by unfold m_Waiting_settleLast_w0_7 m_Waiting_settleLast_w0_10; simp only [if_neg c_1, if_neg c_5, if_neg c_6]
        rw [eW] at hP9 hD9
        exact W.iret (v := (-2147483642)) hx hb hr (fun t9 ht hW => ⟨⟨(-2147483642), (), rfl, by unfold m_Waiting_settleLast_r; simp only [if_neg c_1, if_neg c_5, if_neg c_6], by rw [ht]; exact hP9, va_K.moved hW.alike hK, hD9⟩, hS.F ht⟩) hS.2.2 d_Waiting_settleLast_50
    · refine lv_aload_n hx hb d_Waiting_settleLast_22 rfl (lv_at hl 0 rfl) ?_
      refine lv_aload_n hx hb d_Waiting_settleLast_23 rfl (lv_at hl 0 rfl) ?_
      refine va_get (D := (dC, dI)) (ci := 9) (v := .ref q_kind) (C := R_Waiting) (T := F_Waiting) (N := 11) hx hb htt iw_Waiting hown hK hP 0 rfl rfl 0 (by decide) (htt _ lk_Waiting_9) (fun _ h9 => h9) rfl d_Waiting_settleLast_24 ?_
      refine lv_aload_n hx hb d_Waiting_settleLast_27 rfl (lv_at hl 0 rfl) ?_
      refine va_get (D := (dC, dI)) (ci := 9) (v := .int q_count) (C := R_Waiting) (T := F_Waiting) (N := 11) hx hb htt iw_Waiting hown hK hP 0 rfl rfl 7 (by decide) (htt _ lk_Waiting_36) (fun _ h9 => h9) rfl d_Waiting_settleLast_28 ?_
      have h_8 : vp_in q_count 401 := by rw [vp_in_iff]; simp only [Int32.lt_iff_toInt_lt, Int32.le_iff_toInt_le, Int32.reduceToInt] at c_1 c_5 hc ⊢; omega
      refine va_iald hx hb hK hP 1 0 rfl rfl h_8 d_Waiting_settleLast_31 ?_
      refine lv_topi (fun x_9 ex_9 => ?_)
      refine va_put (D := (dC, dI)) (ci := 9) (v := .int x_9) (ty := .int) (C := R_Waiting) (T := F_Waiting) (N := 11) hx hb htt iw_Waiting t_Waiting t_Waiting_ok n_Waiting hown hK hP hD hS 0 rfl rfl 10 (by decide) (htt _ lk_Waiting_43) (fun _ h9 => h9) rfl (by decide +kernel) rfl rfl (Nat.le_of_ble_eq_true rfl) d_Waiting_settleLast_32 (fun H locs hP hD hS => ?_)
      have hP : va_P (dC, dI) classes [(h0, .inr (9, [.ref q_kind, .ref q_code, .ref q_need, .ref q_strength, .ref q_base, .ref q_inputs, .ref q_body, .int q_count, .ref q_values, .int q_height, .int x_9])), (q_kind, .inl (cI, 401, .inl q_kind_v)), (q_need, .inl (cI, 401, .inl q_need_v))] H := hP
      have hD : va_D A [(h0, .inr (9, [.ref q_kind, .ref q_code, .ref q_need, .ref q_strength, .ref q_base, .ref q_inputs, .ref q_body, .int q_count, .ref q_values, .int q_height, .int x_9])), (q_kind, .inl (cI, 401, .inl q_kind_v)), (q_need, .inl (cI, 401, .inl q_need_v))] := hD
      refine lv_ldc (v := (-2147483584)) hx hb hown (htt _ lk_Waiting_50) d_Waiting_settleLast_35 ?_
      subst ex_9
      have hP9 := hP.sub (ws' := [(h0, .inr (9, [.ref q_kind, .ref q_code, .ref q_need, .ref q_strength, .ref q_base, .ref q_inputs, .ref q_body, .int q_count, .ref q_values, .int q_height, .int ((q_kind_v q_count.toNatClampNeg))])), (q_kind, .inl (cI, 401, .inl q_kind_v)), (q_need, .inl (cI, 401, .inl q_need_v))]) [0, 1, 2] rfl
      have hD9 := hD.sub (ws' := [(h0, .inr (9, [.ref q_kind, .ref q_code, .ref q_need, .ref q_strength, .ref q_base, .ref q_inputs, .ref q_body, .int q_count, .ref q_values, .int q_height, .int ((q_kind_v q_count.toNatClampNeg))])), (q_kind, .inl (cI, 401, .inl q_kind_v)), (q_need, .inl (cI, 401, .inl q_need_v))]) [0, 1, 2] (by decide) rfl
      have eW : [(h0, .inr (9, [.ref q_kind, .ref q_code, .ref q_need, .ref q_strength, .ref q_base, .ref q_inputs, .ref q_body, .int q_count, .ref q_values, .int q_height, .int ((q_kind_v q_count.toNatClampNeg))])), (q_kind, .inl (cI, 401, .inl q_kind_v)), (q_need, .inl (cI, 401, .inl q_need_v))] = ([(h0, .inr (9, [.ref q_kind, .ref q_code, .ref q_need, .ref q_strength, .ref q_base, .ref q_inputs, .ref q_body, .int (m_Waiting_settleLast_w0_7 q_count q_need_v), .ref q_values, .int q_height, .int (m_Waiting_settleLast_w0_10 q_count q_ready q_kind_v q_need_v)])), (q_kind, .inl (cI, 401, .inl q_kind_v)), (q_need, .inl (cI, 401, .inl q_need_v))] : va_W) := by unfold m_Waiting_settleLast_w0_7 m_Waiting_settleLast_w0_10; simp only [if_neg c_1, if_pos c_5]
      rw [eW] at hP9 hD9
      exact W.iret (v := (-2147483584)) hx hb hr (fun t9 ht hW => ⟨⟨(-2147483584), (), rfl, by unfold m_Waiting_settleLast_r; simp only [if_neg c_1, if_pos c_5], by rw [ht]; exact hP9, va_K.moved hW.alike hK, hD9⟩, hS.F ht⟩) hS.2.2 d_Waiting_settleLast_37

def m_Waiting_put_w0_9 (q_height : Int32) : Int32 := if ((32000 : Int32)) ≤ q_height then q_height else (q_height + 1)
def m_Waiting_put_w1 (q_height : Int32) (q_values_v : Nat → Int32) (v : Int32) : Nat → Int32 := if ((32000 : Int32)) ≤ q_height then q_values_v else upd q_values_v q_height.toNatClampNeg v
set_option maxHeartbeats 4000000 in
set_option maxRecDepth 100000 in
theorem c_Waiting_put (l : Launch) (dC : Nat → ClassId) (dI : Nat → Nat → Nat) (sz : Nat) (h0 : Nat) (q_kind : Nat) (q_code : Nat) (q_need : Nat) (q_strength : Nat) (q_base : Nat) (q_inputs : Nat) (q_body : Nat) (q_count : Int32) (q_values : Nat) (q_height : Int32) (q_ready : Int32) (q_values_v : Nat → Int32) (cI : ClassId) (v : Int32) (hh : ¬ q_height < 0) : Met l y_Waiting_put w_Waiting_put ({ frames := 0, cells := 0, slots := 0, locals := 0 }) (va_Pc [.ref h0, .int v] (fun U => U.heap.size = sz ∧ va_P (dC, dI) classes [(h0, .inr (9, [.ref q_kind, .ref q_code, .ref q_need, .ref q_strength, .ref q_base, .ref q_inputs, .ref q_body, .int q_count, .ref q_values, .int q_height, .int q_ready])), (q_values, .inl (cI, 32000, .inl q_values_v))] U.heap ∧ va_K (dC, dI) classes [(cI, .int)] U ∧ va_D (fun _ => True) [(h0, .inr (9, [.ref q_kind, .ref q_code, .ref q_need, .ref q_strength, .ref q_base, .ref q_inputs, .ref q_body, .int q_count, .ref q_values, .int q_height, .int q_ready])), (q_values, .inl (cI, 32000, .inl q_values_v))])) (va_Qv (fun (_ : Unit) => True) (fun (_ : Unit) t => va_P (dC, dI) classes [(h0, .inr (9, [.ref q_kind, .ref q_code, .ref q_need, .ref q_strength, .ref q_base, .ref q_inputs, .ref q_body, .int q_count, .ref q_values, .int (m_Waiting_put_w0_9 q_height), .int q_ready])), (q_values, .inl (cI, 32000, .inl (m_Waiting_put_w1 q_height q_values_v v)))] t.heap ∧ va_K (dC, dI) classes [(cI, .int)] t ∧ va_D (va_A [(h0, .inr (9, [.ref q_kind, .ref q_code, .ref q_need, .ref q_strength, .ref q_base, .ref q_inputs, .ref q_body, .int q_count, .ref q_values, .int q_height, .int q_ready])), (q_values, .inl (cI, 32000, .inl q_values_v))] sz) [(h0, .inr (9, [.ref q_kind, .ref q_code, .ref q_need, .ref q_strength, .ref q_base, .ref q_inputs, .ref q_body, .int q_count, .ref q_values, .int (m_Waiting_put_w0_9 q_height), .int q_ready])), (q_values, .inl (cI, 32000, .inl (m_Waiting_put_w1 q_height q_values_v v)))]) (va_A [(h0, .inr (9, [.ref q_kind, .ref q_code, .ref q_need, .ref q_strength, .ref q_base, .ref q_inputs, .ref q_body, .int q_count, .ref q_values, .int q_height, .int q_ready])), (q_values, .inl (cI, 32000, .inl q_values_v))] sz)) 0 0 (va_A [(h0, .inr (9, [.ref q_kind, .ref q_code, .ref q_need, .ref q_strength, .ref q_base, .ref q_inputs, .ref q_body, .int q_count, .ref q_values, .int q_height, .int q_ready])), (q_values, .inl (cI, 32000, .inl q_values_v))] sz) := by
  refine Met.ofW (cc := b_Waiting_put) (maxL := 2) (ret := none) (by decide) rfl ?_
  intro p e s m args below meth c s₁ B hml hv
  obtain ⟨rfl, hsz, hP, hK, hD0⟩ := hv
  have hx := B.exec
  have hb := B.bytes
  have hr := B.returns
  have hts := atoms_spec (ws := w_Waiting_put) B.pre
  have htt : ∀ w ∈ tw_T, w.before _ s = true := fun w h => hts w (List.mem_cons_of_mem _ h)
  have hown : s.vm.findClass R_Waiting = some m.cls := findClass_of_methodNamed B.named
  have hlocks := B.notSynchronized
  subst hsz
  have hD := hD0.self (sz := s.heap.size)
  generalize hAe : va_A [(h0, .inr (9, [.ref q_kind, .ref q_code, .ref q_need, .ref q_strength, .ref q_base, .ref q_inputs, .ref q_body, .int q_count, .ref q_values, .int q_height, .int q_ready])), (q_values, .inl (cI, 32000, .inl q_values_v))] s.heap.size = A at hD ⊢
  have hA : ∀ q : Nat, s.heap.size ≤ q → A q := fun q h => by rw [← hAe]; exact Or.inr h
  have hS : va_S A s.heap s.heap [] := va_S.rf
  have hP : va_P (dC, dI) classes [(h0, .inr (9, [.ref q_kind, .ref q_code, .ref q_need, .ref q_strength, .ref q_base, .ref q_inputs, .ref q_body, .int q_count, .ref q_values, .int q_height, .int q_ready])), (q_values, .inl (cI, 32000, .inl q_values_v))] s.heap := hP
  have hl := lv_entry ([.ref h0, .int v]) (n := 2) (Nat.le_of_ble_eq_true rfl)
  rw [lg_entry_eq]
  generalize (lg_sl ([.ref h0, .int v]) ++ List.replicate (2 - (lg_sl ([.ref h0, .int v])).length) Slot.unset).toArray = ls at hl ⊢
  have hl : lv_has ls 2 [(0, .ref h0), (1, .int v)] := hl
  refine lv_aload_n hx hb d_Waiting_put_0 rfl (lv_at hl 0 rfl) ?_
  refine va_get (D := (dC, dI)) (ci := 9) (v := .int q_height) (C := R_Waiting) (T := F_Waiting) (N := 11) hx hb htt iw_Waiting hown hK hP 0 rfl rfl 9 (by decide) (htt _ lk_Waiting_40) (fun _ h9 => h9) rfl d_Waiting_put_1 ?_
  refine lv_sipush (v := 32000) hx hb d_Waiting_put_4 (by decide) ?_
  refine lv_icmp_ge (tgt := 30) hx hb d_Waiting_put_7 (by decide) (fun c_1 => ?_) (fun c_1 => ?_)
  · have hP9 := hP.sub (ws' := [(h0, .inr (9, [.ref q_kind, .ref q_code, .ref q_need, .ref q_strength, .ref q_base, .ref q_inputs, .ref q_body, .int q_count, .ref q_values, .int q_height, .int q_ready])), (q_values, .inl (cI, 32000, .inl q_values_v))]) [0, 1] rfl
    have hD9 := hD.sub (ws' := [(h0, .inr (9, [.ref q_kind, .ref q_code, .ref q_need, .ref q_strength, .ref q_base, .ref q_inputs, .ref q_body, .int q_count, .ref q_values, .int q_height, .int q_ready])), (q_values, .inl (cI, 32000, .inl q_values_v))]) [0, 1] (by decide) rfl
    have eW : [(h0, .inr (9, [.ref q_kind, .ref q_code, .ref q_need, .ref q_strength, .ref q_base, .ref q_inputs, .ref q_body, .int q_count, .ref q_values, .int q_height, .int q_ready])), (q_values, .inl (cI, 32000, .inl q_values_v))] = ([(h0, .inr (9, [.ref q_kind, .ref q_code, .ref q_need, .ref q_strength, .ref q_base, .ref q_inputs, .ref q_body, .int q_count, .ref q_values, .int (m_Waiting_put_w0_9 q_height), .int q_ready])), (q_values, .inl (cI, 32000, .inl (m_Waiting_put_w1 q_height q_values_v v)))] : va_W) := by unfold m_Waiting_put_w0_9 m_Waiting_put_w1; simp only [if_pos c_1]
    rw [eW] at hP9 hD9
    exact W.vret hx hb hr (fun t9 ht hW => ⟨⟨(), rfl, trivial, by rw [ht]; exact hP9, va_K.moved hW.alike hK, hD9⟩, hS.F ht⟩) hS.2.2 d_Waiting_put_30
  · refine lv_aload_n hx hb d_Waiting_put_10 rfl (lv_at hl 0 rfl) ?_
    refine va_get (D := (dC, dI)) (ci := 9) (v := .ref q_values) (C := R_Waiting) (T := F_Waiting) (N := 11) hx hb htt iw_Waiting hown hK hP 0 rfl rfl 8 (by decide) (htt _ lk_Waiting_33) (fun _ h9 => h9) rfl d_Waiting_put_11 ?_
    refine lv_aload_n hx hb d_Waiting_put_14 rfl (lv_at hl 0 rfl) ?_
    refine va_get (D := (dC, dI)) (ci := 9) (v := .int q_height) (C := R_Waiting) (T := F_Waiting) (N := 11) hx hb htt iw_Waiting hown hK hP 0 rfl rfl 9 (by decide) (htt _ lk_Waiting_40) (fun _ h9 => h9) rfl d_Waiting_put_15 ?_
    refine lv_iload_n hx hb d_Waiting_put_18 rfl (lv_at hl 1 rfl) ?_
    have h_2 : vp_in q_height 32000 := by rw [vp_in_iff]; simp only [Int32.lt_iff_toInt_lt, Int32.le_iff_toInt_le, Int32.reduceToInt] at c_1 hh ⊢; omega
    refine va_iast hx hb hK hP hD hS 1 0 rfl rfl h_2 d_Waiting_put_19 (fun H locs hP hD hS => ?_)
    have hP : va_P (dC, dI) classes [(h0, .inr (9, [.ref q_kind, .ref q_code, .ref q_need, .ref q_strength, .ref q_base, .ref q_inputs, .ref q_body, .int q_count, .ref q_values, .int q_height, .int q_ready])), (q_values, .inl (cI, 32000, .inl (upd q_values_v q_height.toNatClampNeg v)))] H := hP
    have hD : va_D A [(h0, .inr (9, [.ref q_kind, .ref q_code, .ref q_need, .ref q_strength, .ref q_base, .ref q_inputs, .ref q_body, .int q_count, .ref q_values, .int q_height, .int q_ready])), (q_values, .inl (cI, 32000, .inl (upd q_values_v q_height.toNatClampNeg v)))] := hD
    refine lv_aload_n hx hb d_Waiting_put_20 rfl (lv_at hl 0 rfl) ?_
    refine lv_dup hx hb d_Waiting_put_21 rfl ?_
    refine va_get (D := (dC, dI)) (ci := 9) (v := .int q_height) (C := R_Waiting) (T := F_Waiting) (N := 11) hx hb htt iw_Waiting hown hK hP 0 rfl rfl 9 (by decide) (htt _ lk_Waiting_40) (fun _ h9 => h9) rfl d_Waiting_put_22 ?_
    refine lv_iconst (v := 1) hx hb d_Waiting_put_25 (by decide) ?_
    refine lv_iadd hx hb d_Waiting_put_26 ?_
    refine lv_topi (fun x_3 ex_3 => ?_)
    refine va_put (D := (dC, dI)) (ci := 9) (v := .int x_3) (ty := .int) (C := R_Waiting) (T := F_Waiting) (N := 11) hx hb htt iw_Waiting t_Waiting t_Waiting_ok n_Waiting hown hK hP hD hS 0 rfl rfl 9 (by decide) (htt _ lk_Waiting_40) (fun _ h9 => h9) rfl (by decide +kernel) rfl rfl (Nat.le_of_ble_eq_true rfl) d_Waiting_put_27 (fun H locs hP hD hS => ?_)
    have hP : va_P (dC, dI) classes [(h0, .inr (9, [.ref q_kind, .ref q_code, .ref q_need, .ref q_strength, .ref q_base, .ref q_inputs, .ref q_body, .int q_count, .ref q_values, .int x_3, .int q_ready])), (q_values, .inl (cI, 32000, .inl (upd q_values_v q_height.toNatClampNeg v)))] H := hP
    have hD : va_D A [(h0, .inr (9, [.ref q_kind, .ref q_code, .ref q_need, .ref q_strength, .ref q_base, .ref q_inputs, .ref q_body, .int q_count, .ref q_values, .int x_3, .int q_ready])), (q_values, .inl (cI, 32000, .inl (upd q_values_v q_height.toNatClampNeg v)))] := hD
    subst ex_3
    have hP9 := hP.sub (ws' := [(h0, .inr (9, [.ref q_kind, .ref q_code, .ref q_need, .ref q_strength, .ref q_base, .ref q_inputs, .ref q_body, .int q_count, .ref q_values, .int ((q_height + 1)), .int q_ready])), (q_values, .inl (cI, 32000, .inl (upd q_values_v q_height.toNatClampNeg v)))]) [0, 1] rfl
    have hD9 := hD.sub (ws' := [(h0, .inr (9, [.ref q_kind, .ref q_code, .ref q_need, .ref q_strength, .ref q_base, .ref q_inputs, .ref q_body, .int q_count, .ref q_values, .int ((q_height + 1)), .int q_ready])), (q_values, .inl (cI, 32000, .inl (upd q_values_v q_height.toNatClampNeg v)))]) [0, 1] (by decide) rfl
    have eW : [(h0, .inr (9, [.ref q_kind, .ref q_code, .ref q_need, .ref q_strength, .ref q_base, .ref q_inputs, .ref q_body, .int q_count, .ref q_values, .int ((q_height + 1)), .int q_ready])), (q_values, .inl (cI, 32000, .inl (upd q_values_v q_height.toNatClampNeg v)))] = ([(h0, .inr (9, [.ref q_kind, .ref q_code, .ref q_need, .ref q_strength, .ref q_base, .ref q_inputs, .ref q_body, .int q_count, .ref q_values, .int (m_Waiting_put_w0_9 q_height), .int q_ready])), (q_values, .inl (cI, 32000, .inl (m_Waiting_put_w1 q_height q_values_v v)))] : va_W) := by unfold m_Waiting_put_w0_9 m_Waiting_put_w1; simp only [if_neg c_1]
    rw [eW] at hP9 hD9
    exact W.vret hx hb hr (fun t9 ht hW => ⟨⟨(), rfl, trivial, by rw [ht]; exact hP9, va_K.moved hW.alike hK, hD9⟩, hS.F ht⟩) hS.2.2 d_Waiting_put_30

def m_Waiting_supply_w0_9 (q_count : Int32) (q_height : Int32) (q_need_v : Nat → Int32) (q_base_v : Nat → Int32) : Int32 := if (q_count - 1) < ((0 : Int32)) then m_Waiting_put_w0_9 q_height else if (((m_Waiting_put_w0_9 q_height) - (q_base_v (q_count - 1).toNatClampNeg))) < ((q_need_v (q_count - 1).toNatClampNeg)) then m_Waiting_put_w0_9 q_height else m_Waiting_put_w0_9 q_height
def m_Waiting_supply_w4 (q_count : Int32) (q_height : Int32) (q_need_v : Nat → Int32) (q_base_v : Nat → Int32) (q_values_v : Nat → Int32) (v : Int32) : Nat → Int32 := if (q_count - 1) < ((0 : Int32)) then m_Waiting_put_w1 q_height q_values_v v else if (((m_Waiting_put_w0_9 q_height) - (q_base_v (q_count - 1).toNatClampNeg))) < ((q_need_v (q_count - 1).toNatClampNeg)) then m_Waiting_put_w1 q_height q_values_v v else m_Waiting_put_w1 q_height q_values_v v
def m_Waiting_supply_w0_7 (q_count : Int32) (q_height : Int32) (q_need_v : Nat → Int32) (q_base_v : Nat → Int32) : Int32 := if (q_count - 1) < ((0 : Int32)) then q_count else if (((m_Waiting_put_w0_9 q_height) - (q_base_v (q_count - 1).toNatClampNeg))) < ((q_need_v (q_count - 1).toNatClampNeg)) then q_count else (q_count - 1)
def m_Waiting_supply_w0_10 (q_count : Int32) (q_height : Int32) (q_ready : Int32) (q_kind_v : Nat → Int32) (q_need_v : Nat → Int32) (q_base_v : Nat → Int32) : Int32 := if (q_count - 1) < ((0 : Int32)) then q_ready else if (((m_Waiting_put_w0_9 q_height) - (q_base_v (q_count - 1).toNatClampNeg))) < ((q_need_v (q_count - 1).toNatClampNeg)) then q_ready else (q_kind_v (q_count - 1).toNatClampNeg)
set_option maxHeartbeats 4000000 in
set_option maxRecDepth 100000 in
theorem c_Waiting_supply (l : Launch) (dC : Nat → ClassId) (dI : Nat → Nat → Nat) (sz : Nat) (h0 : Nat) (q_kind : Nat) (q_code : Nat) (q_need : Nat) (q_strength : Nat) (q_base : Nat) (q_inputs : Nat) (q_body : Nat) (q_count : Int32) (q_values : Nat) (q_height : Int32) (q_ready : Int32) (q_kind_v : Nat → Int32) (q_need_v : Nat → Int32) (q_base_v : Nat → Int32) (q_values_v : Nat → Int32) (cI : ClassId) (v : Int32) (hh : ¬ q_height < 0) (hq : q_count ≤ 400) (hc : ¬ q_count < 0) : Met l y_Waiting_supply w_Waiting_supply ({ frames := 1, cells := 0, slots := 0, locals := 21 }) (va_Pc [.ref h0, .int v] (fun U => U.heap.size = sz ∧ va_P (dC, dI) classes [(h0, .inr (9, [.ref q_kind, .ref q_code, .ref q_need, .ref q_strength, .ref q_base, .ref q_inputs, .ref q_body, .int q_count, .ref q_values, .int q_height, .int q_ready])), (q_kind, .inl (cI, 401, .inl q_kind_v)), (q_need, .inl (cI, 401, .inl q_need_v)), (q_base, .inl (cI, 401, .inl q_base_v)), (q_values, .inl (cI, 32000, .inl q_values_v))] U.heap ∧ va_K (dC, dI) classes [(cI, .int)] U ∧ va_D (fun _ => True) [(h0, .inr (9, [.ref q_kind, .ref q_code, .ref q_need, .ref q_strength, .ref q_base, .ref q_inputs, .ref q_body, .int q_count, .ref q_values, .int q_height, .int q_ready])), (q_kind, .inl (cI, 401, .inl q_kind_v)), (q_need, .inl (cI, 401, .inl q_need_v)), (q_base, .inl (cI, 401, .inl q_base_v)), (q_values, .inl (cI, 32000, .inl q_values_v))])) (va_Qv (fun (_ : Unit) => True) (fun (_ : Unit) t => va_P (dC, dI) classes [(h0, .inr (9, [.ref q_kind, .ref q_code, .ref q_need, .ref q_strength, .ref q_base, .ref q_inputs, .ref q_body, .int (m_Waiting_supply_w0_7 q_count q_height q_need_v q_base_v), .ref q_values, .int (m_Waiting_supply_w0_9 q_count q_height q_need_v q_base_v), .int (m_Waiting_supply_w0_10 q_count q_height q_ready q_kind_v q_need_v q_base_v)])), (q_kind, .inl (cI, 401, .inl q_kind_v)), (q_need, .inl (cI, 401, .inl q_need_v)), (q_base, .inl (cI, 401, .inl q_base_v)), (q_values, .inl (cI, 32000, .inl (m_Waiting_supply_w4 q_count q_height q_need_v q_base_v q_values_v v)))] t.heap ∧ va_K (dC, dI) classes [(cI, .int)] t ∧ va_D (va_A [(h0, .inr (9, [.ref q_kind, .ref q_code, .ref q_need, .ref q_strength, .ref q_base, .ref q_inputs, .ref q_body, .int q_count, .ref q_values, .int q_height, .int q_ready])), (q_kind, .inl (cI, 401, .inl q_kind_v)), (q_need, .inl (cI, 401, .inl q_need_v)), (q_base, .inl (cI, 401, .inl q_base_v)), (q_values, .inl (cI, 32000, .inl q_values_v))] sz) [(h0, .inr (9, [.ref q_kind, .ref q_code, .ref q_need, .ref q_strength, .ref q_base, .ref q_inputs, .ref q_body, .int (m_Waiting_supply_w0_7 q_count q_height q_need_v q_base_v), .ref q_values, .int (m_Waiting_supply_w0_9 q_count q_height q_need_v q_base_v), .int (m_Waiting_supply_w0_10 q_count q_height q_ready q_kind_v q_need_v q_base_v)])), (q_kind, .inl (cI, 401, .inl q_kind_v)), (q_need, .inl (cI, 401, .inl q_need_v)), (q_base, .inl (cI, 401, .inl q_base_v)), (q_values, .inl (cI, 32000, .inl (m_Waiting_supply_w4 q_count q_height q_need_v q_base_v q_values_v v)))]) (va_A [(h0, .inr (9, [.ref q_kind, .ref q_code, .ref q_need, .ref q_strength, .ref q_base, .ref q_inputs, .ref q_body, .int q_count, .ref q_values, .int q_height, .int q_ready])), (q_kind, .inl (cI, 401, .inl q_kind_v)), (q_need, .inl (cI, 401, .inl q_need_v)), (q_base, .inl (cI, 401, .inl q_base_v)), (q_values, .inl (cI, 32000, .inl q_values_v))] sz)) 0 0 (va_A [(h0, .inr (9, [.ref q_kind, .ref q_code, .ref q_need, .ref q_strength, .ref q_base, .ref q_inputs, .ref q_body, .int q_count, .ref q_values, .int q_height, .int q_ready])), (q_kind, .inl (cI, 401, .inl q_kind_v)), (q_need, .inl (cI, 401, .inl q_need_v)), (q_base, .inl (cI, 401, .inl q_base_v)), (q_values, .inl (cI, 32000, .inl q_values_v))] sz) := by
  refine Met.ofW (cc := b_Waiting_supply) (maxL := 3) (ret := none) (by decide) rfl ?_
  intro p e s m args below meth c s₁ B hml hv
  obtain ⟨rfl, hsz, hP, hK, hD0⟩ := hv
  have hx := B.exec
  have hb := B.bytes
  have hr := B.returns
  have hts := atoms_spec (ws := w_Waiting_supply) B.pre
  have htt : ∀ w ∈ tw_T, w.before _ s = true := fun w h => hts w (List.mem_cons_of_mem _ h)
  have hown : s.vm.findClass R_Waiting = some m.cls := findClass_of_methodNamed B.named
  have hlocks := B.notSynchronized
  subst hsz
  have hD := hD0.self (sz := s.heap.size)
  generalize hAe : va_A [(h0, .inr (9, [.ref q_kind, .ref q_code, .ref q_need, .ref q_strength, .ref q_base, .ref q_inputs, .ref q_body, .int q_count, .ref q_values, .int q_height, .int q_ready])), (q_kind, .inl (cI, 401, .inl q_kind_v)), (q_need, .inl (cI, 401, .inl q_need_v)), (q_base, .inl (cI, 401, .inl q_base_v)), (q_values, .inl (cI, 32000, .inl q_values_v))] s.heap.size = A at hD ⊢
  have hA : ∀ q : Nat, s.heap.size ≤ q → A q := fun q h => by rw [← hAe]; exact Or.inr h
  have hS : va_S A s.heap s.heap [] := va_S.rf
  have hP : va_P (dC, dI) classes [(h0, .inr (9, [.ref q_kind, .ref q_code, .ref q_need, .ref q_strength, .ref q_base, .ref q_inputs, .ref q_body, .int q_count, .ref q_values, .int q_height, .int q_ready])), (q_kind, .inl (cI, 401, .inl q_kind_v)), (q_need, .inl (cI, 401, .inl q_need_v)), (q_base, .inl (cI, 401, .inl q_base_v)), (q_values, .inl (cI, 32000, .inl q_values_v))] s.heap := hP
  have hl := lv_entry ([.ref h0, .int v]) (n := 3) (Nat.le_of_ble_eq_true rfl)
  rw [lg_entry_eq]
  generalize (lg_sl ([.ref h0, .int v]) ++ List.replicate (3 - (lg_sl ([.ref h0, .int v])).length) Slot.unset).toArray = ls at hl ⊢
  have hl : lv_has ls 3 [(0, .ref h0), (1, .int v)] := hl
  refine lv_aload_n hx hb d_Waiting_supply_0 rfl (lv_at hl 0 rfl) ?_
  refine lv_iload_n hx hb d_Waiting_supply_1 rfl (lv_at hl 1 rfl) ?_
  have hPc := hP.sub (ws' := [(h0, .inr (9, [.ref q_kind, .ref q_code, .ref q_need, .ref q_strength, .ref q_base, .ref q_inputs, .ref q_body, .int q_count, .ref q_values, .int q_height, .int q_ready])), (q_values, .inl (cI, 32000, .inl q_values_v))]) [0, 4] rfl
  have hDc := hD.sub (ws' := [(h0, .inr (9, [.ref q_kind, .ref q_code, .ref q_need, .ref q_strength, .ref q_base, .ref q_inputs, .ref q_body, .int q_count, .ref q_values, .int q_height, .int q_ready])), (q_values, .inl (cI, 32000, .inl q_values_v))]) [0, 4] (by decide) rfl
  have hKc := hK.sub (tys' := [(cI, .int)]) [0] rfl
  have hFc := va_free (wc := [(h0, .inr (9, [.ref q_kind, .ref q_code, .ref q_need, .ref q_strength, .ref q_base, .ref q_inputs, .ref q_body, .int q_count, .ref q_values, .int q_height, .int q_ready])), (q_values, .inl (cI, 32000, .inl q_values_v))]) hD hS hA [0, 4] rfl
  refine va_callv (va_runV (As := [.int v]) (rest := []) ⟨hx, hb, hml, hown, hts⟩ (c_Waiting_put l dC dI s.heap.size h0 q_kind q_code q_need q_strength q_base q_inputs q_body q_count q_values q_height q_ready q_values_v cI v (by assumption)) (cwV 1 hts (tw_GV tw_cons cw_Waiting_put lk_Waiting_52 in_Waiting_put sel_Waiting_put ini_Waiting) rfl rfl rfl (by decide +kernel) ⟨Nat.le_of_ble_eq_true rfl, Nat.le_of_ble_eq_true rfl⟩) ⟨fun a U g mk q => by obtain ⟨q0, q1, qP, qK, qD⟩ := q; exact ⟨q0, q1, qP, va_K.moved (u := U) (U := U.calling g mk a) (Vm.Alike.refl U.vm) qK, qD⟩, va_recv hKc hPc (ci := 9) (q0 := 0) rfl rfl, fun U hU hW => ⟨rfl, by rw [hU], by rw [hU]; exact hPc, va_K.moved hW.alike hKc, hDc.weaken (fun _ _ _ _ => trivial)⟩⟩ rfl rfl hl.1 rfl (lv_room (Nat.le_of_ble_eq_true rfl)) d_Waiting_supply_2 ⟨Nat.le_of_ble_eq_true rfl, Nat.le_of_ble_eq_true rfl⟩) hS (fun q _ h => hFc q h) hFc (fun u9 t9 H1 locs ht hvm e9 hB hz1 hk1 hS => ?_)
  obtain ⟨hP1, hK1, hD1⟩ := hB
  rw [ht] at hP1
  obtain ⟨hP, hD⟩ := va_join (wr := [(q_kind, .inl (cI, 401, .inl q_kind_v)), (q_need, .inl (cI, 401, .inl q_need_v)), (q_base, .inl (cI, 401, .inl q_base_v))]) (w1 := [(h0, .inr (9, [.ref q_kind, .ref q_code, .ref q_need, .ref q_strength, .ref q_base, .ref q_inputs, .ref q_body, .int q_count, .ref q_values, .int (m_Waiting_put_w0_9 q_height), .int q_ready])), (q_values, .inl (cI, 32000, .inl (m_Waiting_put_w1 q_height q_values_v v)))]) hP hD [0, 4] [1, 2, 3] rfl rfl (by decide) (by decide) hk1 hFc hP1 hD1
  clear hP1 hD1 hK1 hvm hz1 hk1 hFc hKc hDc hPc
  subst ht
  generalize t9.heap = H at hP hS ⊢
  have hP : va_P (dC, dI) classes [(q_kind, .inl (cI, 401, .inl q_kind_v)), (q_need, .inl (cI, 401, .inl q_need_v)), (q_base, .inl (cI, 401, .inl q_base_v)), (h0, .inr (9, [.ref q_kind, .ref q_code, .ref q_need, .ref q_strength, .ref q_base, .ref q_inputs, .ref q_body, .int q_count, .ref q_values, .int (m_Waiting_put_w0_9 q_height), .int q_ready])), (q_values, .inl (cI, 32000, .inl (m_Waiting_put_w1 q_height q_values_v v)))] H := hP
  have hD : va_D A [(q_kind, .inl (cI, 401, .inl q_kind_v)), (q_need, .inl (cI, 401, .inl q_need_v)), (q_base, .inl (cI, 401, .inl q_base_v)), (h0, .inr (9, [.ref q_kind, .ref q_code, .ref q_need, .ref q_strength, .ref q_base, .ref q_inputs, .ref q_body, .int q_count, .ref q_values, .int (m_Waiting_put_w0_9 q_height), .int q_ready])), (q_values, .inl (cI, 32000, .inl (m_Waiting_put_w1 q_height q_values_v v)))] := hD
  refine lv_aload_n hx hb d_Waiting_supply_5 rfl (lv_at hl 0 rfl) ?_
  refine va_get (D := (dC, dI)) (ci := 9) (v := .int q_count) (C := R_Waiting) (T := F_Waiting) (N := 11) hx hb htt iw_Waiting hown hK hP 3 rfl rfl 7 (by decide) (htt _ lk_Waiting_36) (fun _ h9 => h9) rfl d_Waiting_supply_6 ?_
  refine lv_iconst (v := 1) hx hb d_Waiting_supply_9 (by decide) ?_
  refine lv_isub hx hb d_Waiting_supply_10 ?_
  refine lv_topi (fun x_1 ex_1 => ?_)
  refine lv_istore_n (lv' := [(2, .int x_1), (0, .ref h0), (1, .int v)]) hx hb d_Waiting_supply_11 rfl hl (by decide) rfl (fun ls hl => ?_)
  refine lv_iload_n hx hb d_Waiting_supply_12 rfl (lv_at hl 0 rfl) ?_
  refine lv_if_lt (tgt := 51) hx hb d_Waiting_supply_13 (by decide) (fun c_2 => ?_) (fun c_2 => ?_)
  · subst ex_1
    have hP9 := hP.sub (ws' := [(h0, .inr (9, [.ref q_kind, .ref q_code, .ref q_need, .ref q_strength, .ref q_base, .ref q_inputs, .ref q_body, .int q_count, .ref q_values, .int (m_Waiting_put_w0_9 q_height), .int q_ready])), (q_kind, .inl (cI, 401, .inl q_kind_v)), (q_need, .inl (cI, 401, .inl q_need_v)), (q_base, .inl (cI, 401, .inl q_base_v)), (q_values, .inl (cI, 32000, .inl (m_Waiting_put_w1 q_height q_values_v v)))]) [3, 0, 1, 2, 4] rfl
    have hD9 := hD.sub (ws' := [(h0, .inr (9, [.ref q_kind, .ref q_code, .ref q_need, .ref q_strength, .ref q_base, .ref q_inputs, .ref q_body, .int q_count, .ref q_values, .int (m_Waiting_put_w0_9 q_height), .int q_ready])), (q_kind, .inl (cI, 401, .inl q_kind_v)), (q_need, .inl (cI, 401, .inl q_need_v)), (q_base, .inl (cI, 401, .inl q_base_v)), (q_values, .inl (cI, 32000, .inl (m_Waiting_put_w1 q_height q_values_v v)))]) [3, 0, 1, 2, 4] (by decide) rfl
    have eW : [(h0, .inr (9, [.ref q_kind, .ref q_code, .ref q_need, .ref q_strength, .ref q_base, .ref q_inputs, .ref q_body, .int q_count, .ref q_values, .int (m_Waiting_put_w0_9 q_height), .int q_ready])), (q_kind, .inl (cI, 401, .inl q_kind_v)), (q_need, .inl (cI, 401, .inl q_need_v)), (q_base, .inl (cI, 401, .inl q_base_v)), (q_values, .inl (cI, 32000, .inl (m_Waiting_put_w1 q_height q_values_v v)))] = ([(h0, .inr (9, [.ref q_kind, .ref q_code, .ref q_need, .ref q_strength, .ref q_base, .ref q_inputs, .ref q_body, .int (m_Waiting_supply_w0_7 q_count q_height q_need_v q_base_v), .ref q_values, .int (m_Waiting_supply_w0_9 q_count q_height q_need_v q_base_v), .int (m_Waiting_supply_w0_10 q_count q_height q_ready q_kind_v q_need_v q_base_v)])), (q_kind, .inl (cI, 401, .inl q_kind_v)), (q_need, .inl (cI, 401, .inl q_need_v)), (q_base, .inl (cI, 401, .inl q_base_v)), (q_values, .inl (cI, 32000, .inl (m_Waiting_supply_w4 q_count q_height q_need_v q_base_v q_values_v v)))] : va_W) := by unfold m_Waiting_supply_w0_9 m_Waiting_supply_w4 m_Waiting_supply_w0_7 m_Waiting_supply_w0_10; simp only [if_pos c_2]
    rw [eW] at hP9 hD9
    exact W.vret hx hb hr (fun t9 ht hW => ⟨⟨(), rfl, trivial, by rw [ht]; exact hP9, va_K.moved hW.alike hK, hD9⟩, hS.F ht⟩) hS.2.2 d_Waiting_supply_51
  · refine lv_aload_n hx hb d_Waiting_supply_16 rfl (lv_at hl 1 rfl) ?_
    refine va_get (D := (dC, dI)) (ci := 9) (v := .int (m_Waiting_put_w0_9 q_height)) (C := R_Waiting) (T := F_Waiting) (N := 11) hx hb htt iw_Waiting hown hK hP 3 rfl rfl 9 (by decide) (htt _ lk_Waiting_40) (fun _ h9 => h9) rfl d_Waiting_supply_17 ?_
    refine lv_aload_n hx hb d_Waiting_supply_20 rfl (lv_at hl 1 rfl) ?_
    refine va_get (D := (dC, dI)) (ci := 9) (v := .ref q_base) (C := R_Waiting) (T := F_Waiting) (N := 11) hx hb htt iw_Waiting hown hK hP 3 rfl rfl 4 (by decide) (htt _ lk_Waiting_24) (fun _ h9 => h9) rfl d_Waiting_supply_21 ?_
    refine lv_iload_n hx hb d_Waiting_supply_24 rfl (lv_at hl 0 rfl) ?_
    have h_3 : vp_in x_1 401 := by rw [ex_1] at c_2 ⊢; exact q_last_in hc hq c_2
    refine va_iald hx hb hK hP 2 0 rfl rfl h_3 d_Waiting_supply_25 ?_
    refine lv_isub hx hb d_Waiting_supply_26 ?_
    refine lv_aload_n hx hb d_Waiting_supply_27 rfl (lv_at hl 1 rfl) ?_
    refine va_get (D := (dC, dI)) (ci := 9) (v := .ref q_need) (C := R_Waiting) (T := F_Waiting) (N := 11) hx hb htt iw_Waiting hown hK hP 3 rfl rfl 2 (by decide) (htt _ lk_Waiting_18) (fun _ h9 => h9) rfl d_Waiting_supply_28 ?_
    refine lv_iload_n hx hb d_Waiting_supply_31 rfl (lv_at hl 0 rfl) ?_
    have h_4 : vp_in x_1 401 := by rw [ex_1] at c_2 ⊢; exact q_last_in hc hq c_2
    refine va_iald hx hb hK hP 1 0 rfl rfl h_4 d_Waiting_supply_32 ?_
    refine lv_icmp_lt (tgt := 51) hx hb d_Waiting_supply_33 (by decide) (fun c_5 => ?_) (fun c_5 => ?_)
    · subst ex_1
      have hP9 := hP.sub (ws' := [(h0, .inr (9, [.ref q_kind, .ref q_code, .ref q_need, .ref q_strength, .ref q_base, .ref q_inputs, .ref q_body, .int q_count, .ref q_values, .int (m_Waiting_put_w0_9 q_height), .int q_ready])), (q_kind, .inl (cI, 401, .inl q_kind_v)), (q_need, .inl (cI, 401, .inl q_need_v)), (q_base, .inl (cI, 401, .inl q_base_v)), (q_values, .inl (cI, 32000, .inl (m_Waiting_put_w1 q_height q_values_v v)))]) [3, 0, 1, 2, 4] rfl
      have hD9 := hD.sub (ws' := [(h0, .inr (9, [.ref q_kind, .ref q_code, .ref q_need, .ref q_strength, .ref q_base, .ref q_inputs, .ref q_body, .int q_count, .ref q_values, .int (m_Waiting_put_w0_9 q_height), .int q_ready])), (q_kind, .inl (cI, 401, .inl q_kind_v)), (q_need, .inl (cI, 401, .inl q_need_v)), (q_base, .inl (cI, 401, .inl q_base_v)), (q_values, .inl (cI, 32000, .inl (m_Waiting_put_w1 q_height q_values_v v)))]) [3, 0, 1, 2, 4] (by decide) rfl
      have eW : [(h0, .inr (9, [.ref q_kind, .ref q_code, .ref q_need, .ref q_strength, .ref q_base, .ref q_inputs, .ref q_body, .int q_count, .ref q_values, .int (m_Waiting_put_w0_9 q_height), .int q_ready])), (q_kind, .inl (cI, 401, .inl q_kind_v)), (q_need, .inl (cI, 401, .inl q_need_v)), (q_base, .inl (cI, 401, .inl q_base_v)), (q_values, .inl (cI, 32000, .inl (m_Waiting_put_w1 q_height q_values_v v)))] = ([(h0, .inr (9, [.ref q_kind, .ref q_code, .ref q_need, .ref q_strength, .ref q_base, .ref q_inputs, .ref q_body, .int (m_Waiting_supply_w0_7 q_count q_height q_need_v q_base_v), .ref q_values, .int (m_Waiting_supply_w0_9 q_count q_height q_need_v q_base_v), .int (m_Waiting_supply_w0_10 q_count q_height q_ready q_kind_v q_need_v q_base_v)])), (q_kind, .inl (cI, 401, .inl q_kind_v)), (q_need, .inl (cI, 401, .inl q_need_v)), (q_base, .inl (cI, 401, .inl q_base_v)), (q_values, .inl (cI, 32000, .inl (m_Waiting_supply_w4 q_count q_height q_need_v q_base_v q_values_v v)))] : va_W) := by unfold m_Waiting_supply_w0_9 m_Waiting_supply_w4 m_Waiting_supply_w0_7 m_Waiting_supply_w0_10; simp only [if_neg c_2, if_pos c_5]
      rw [eW] at hP9 hD9
      exact W.vret hx hb hr (fun t9 ht hW => ⟨⟨(), rfl, trivial, by rw [ht]; exact hP9, va_K.moved hW.alike hK, hD9⟩, hS.F ht⟩) hS.2.2 d_Waiting_supply_51
    · refine lv_aload_n hx hb d_Waiting_supply_36 rfl (lv_at hl 1 rfl) ?_
      refine lv_iload_n hx hb d_Waiting_supply_37 rfl (lv_at hl 0 rfl) ?_
      refine va_put (D := (dC, dI)) (ci := 9) (v := .int x_1) (ty := .int) (C := R_Waiting) (T := F_Waiting) (N := 11) hx hb htt iw_Waiting t_Waiting t_Waiting_ok n_Waiting hown hK hP hD hS 3 rfl rfl 7 (by decide) (htt _ lk_Waiting_36) (fun _ h9 => h9) rfl (by decide +kernel) rfl rfl (Nat.le_of_ble_eq_true rfl) d_Waiting_supply_38 (fun H locs hP hD hS => ?_)
      have hP : va_P (dC, dI) classes [(q_kind, .inl (cI, 401, .inl q_kind_v)), (q_need, .inl (cI, 401, .inl q_need_v)), (q_base, .inl (cI, 401, .inl q_base_v)), (h0, .inr (9, [.ref q_kind, .ref q_code, .ref q_need, .ref q_strength, .ref q_base, .ref q_inputs, .ref q_body, .int x_1, .ref q_values, .int (m_Waiting_put_w0_9 q_height), .int q_ready])), (q_values, .inl (cI, 32000, .inl (m_Waiting_put_w1 q_height q_values_v v)))] H := hP
      have hD : va_D A [(q_kind, .inl (cI, 401, .inl q_kind_v)), (q_need, .inl (cI, 401, .inl q_need_v)), (q_base, .inl (cI, 401, .inl q_base_v)), (h0, .inr (9, [.ref q_kind, .ref q_code, .ref q_need, .ref q_strength, .ref q_base, .ref q_inputs, .ref q_body, .int x_1, .ref q_values, .int (m_Waiting_put_w0_9 q_height), .int q_ready])), (q_values, .inl (cI, 32000, .inl (m_Waiting_put_w1 q_height q_values_v v)))] := hD
      refine lv_aload_n hx hb d_Waiting_supply_41 rfl (lv_at hl 1 rfl) ?_
      refine lv_aload_n hx hb d_Waiting_supply_42 rfl (lv_at hl 1 rfl) ?_
      refine va_get (D := (dC, dI)) (ci := 9) (v := .ref q_kind) (C := R_Waiting) (T := F_Waiting) (N := 11) hx hb htt iw_Waiting hown hK hP 3 rfl rfl 0 (by decide) (htt _ lk_Waiting_9) (fun _ h9 => h9) rfl d_Waiting_supply_43 ?_
      refine lv_iload_n hx hb d_Waiting_supply_46 rfl (lv_at hl 0 rfl) ?_
      have h_6 : vp_in x_1 401 := by rw [ex_1] at c_2 ⊢; exact q_last_in hc hq c_2
      refine va_iald hx hb hK hP 0 0 rfl rfl h_6 d_Waiting_supply_47 ?_
      refine lv_topi (fun x_7 ex_7 => ?_)
      refine va_put (D := (dC, dI)) (ci := 9) (v := .int x_7) (ty := .int) (C := R_Waiting) (T := F_Waiting) (N := 11) hx hb htt iw_Waiting t_Waiting t_Waiting_ok n_Waiting hown hK hP hD hS 3 rfl rfl 10 (by decide) (htt _ lk_Waiting_43) (fun _ h9 => h9) rfl (by decide +kernel) rfl rfl (Nat.le_of_ble_eq_true rfl) d_Waiting_supply_48 (fun H locs hP hD hS => ?_)
      have hP : va_P (dC, dI) classes [(q_kind, .inl (cI, 401, .inl q_kind_v)), (q_need, .inl (cI, 401, .inl q_need_v)), (q_base, .inl (cI, 401, .inl q_base_v)), (h0, .inr (9, [.ref q_kind, .ref q_code, .ref q_need, .ref q_strength, .ref q_base, .ref q_inputs, .ref q_body, .int x_1, .ref q_values, .int (m_Waiting_put_w0_9 q_height), .int x_7])), (q_values, .inl (cI, 32000, .inl (m_Waiting_put_w1 q_height q_values_v v)))] H := hP
      have hD : va_D A [(q_kind, .inl (cI, 401, .inl q_kind_v)), (q_need, .inl (cI, 401, .inl q_need_v)), (q_base, .inl (cI, 401, .inl q_base_v)), (h0, .inr (9, [.ref q_kind, .ref q_code, .ref q_need, .ref q_strength, .ref q_base, .ref q_inputs, .ref q_body, .int x_1, .ref q_values, .int (m_Waiting_put_w0_9 q_height), .int x_7])), (q_values, .inl (cI, 32000, .inl (m_Waiting_put_w1 q_height q_values_v v)))] := hD
      subst ex_1 ex_7
      have hP9 := hP.sub (ws' := [(h0, .inr (9, [.ref q_kind, .ref q_code, .ref q_need, .ref q_strength, .ref q_base, .ref q_inputs, .ref q_body, .int ((q_count - 1)), .ref q_values, .int (m_Waiting_put_w0_9 q_height), .int ((q_kind_v (q_count - 1).toNatClampNeg))])), (q_kind, .inl (cI, 401, .inl q_kind_v)), (q_need, .inl (cI, 401, .inl q_need_v)), (q_base, .inl (cI, 401, .inl q_base_v)), (q_values, .inl (cI, 32000, .inl (m_Waiting_put_w1 q_height q_values_v v)))]) [3, 0, 1, 2, 4] rfl
      have hD9 := hD.sub (ws' := [(h0, .inr (9, [.ref q_kind, .ref q_code, .ref q_need, .ref q_strength, .ref q_base, .ref q_inputs, .ref q_body, .int ((q_count - 1)), .ref q_values, .int (m_Waiting_put_w0_9 q_height), .int ((q_kind_v (q_count - 1).toNatClampNeg))])), (q_kind, .inl (cI, 401, .inl q_kind_v)), (q_need, .inl (cI, 401, .inl q_need_v)), (q_base, .inl (cI, 401, .inl q_base_v)), (q_values, .inl (cI, 32000, .inl (m_Waiting_put_w1 q_height q_values_v v)))]) [3, 0, 1, 2, 4] (by decide) rfl
      have eW : [(h0, .inr (9, [.ref q_kind, .ref q_code, .ref q_need, .ref q_strength, .ref q_base, .ref q_inputs, .ref q_body, .int ((q_count - 1)), .ref q_values, .int (m_Waiting_put_w0_9 q_height), .int ((q_kind_v (q_count - 1).toNatClampNeg))])), (q_kind, .inl (cI, 401, .inl q_kind_v)), (q_need, .inl (cI, 401, .inl q_need_v)), (q_base, .inl (cI, 401, .inl q_base_v)), (q_values, .inl (cI, 32000, .inl (m_Waiting_put_w1 q_height q_values_v v)))] = ([(h0, .inr (9, [.ref q_kind, .ref q_code, .ref q_need, .ref q_strength, .ref q_base, .ref q_inputs, .ref q_body, .int (m_Waiting_supply_w0_7 q_count q_height q_need_v q_base_v), .ref q_values, .int (m_Waiting_supply_w0_9 q_count q_height q_need_v q_base_v), .int (m_Waiting_supply_w0_10 q_count q_height q_ready q_kind_v q_need_v q_base_v)])), (q_kind, .inl (cI, 401, .inl q_kind_v)), (q_need, .inl (cI, 401, .inl q_need_v)), (q_base, .inl (cI, 401, .inl q_base_v)), (q_values, .inl (cI, 32000, .inl (m_Waiting_supply_w4 q_count q_height q_need_v q_base_v q_values_v v)))] : va_W) := by unfold m_Waiting_supply_w0_9 m_Waiting_supply_w4 m_Waiting_supply_w0_7 m_Waiting_supply_w0_10; simp only [if_neg c_2, if_neg c_5]
      rw [eW] at hP9 hD9
      exact W.vret hx hb hr (fun t9 ht hW => ⟨⟨(), rfl, trivial, by rw [ht]; exact hP9, va_K.moved hW.alike hK, hD9⟩, hS.F ht⟩) hS.2.2 d_Waiting_supply_51

def m_Waiting_release_w0_9 (q_height : Int32) (a : Int32) : Int32 := (m_Math_max_r (q_height - a) 0)
set_option maxHeartbeats 4000000 in
set_option maxRecDepth 100000 in
theorem c_Waiting_release (l : Launch) (dC : Nat → ClassId) (dI : Nat → Nat → Nat) (sz : Nat) (h0 : Nat) (q_kind : Nat) (q_code : Nat) (q_need : Nat) (q_strength : Nat) (q_base : Nat) (q_inputs : Nat) (q_body : Nat) (q_count : Int32) (q_values : Nat) (q_height : Int32) (q_ready : Int32) (cI : ClassId) (a : Int32)  : Met l y_Waiting_release w_Waiting_release ({ frames := 1, cells := 0, slots := 0, locals := 21 }) (va_Pc [.ref h0, .int a] (fun U => U.heap.size = sz ∧ va_P (dC, dI) classes [(h0, .inr (9, [.ref q_kind, .ref q_code, .ref q_need, .ref q_strength, .ref q_base, .ref q_inputs, .ref q_body, .int q_count, .ref q_values, .int q_height, .int q_ready]))] U.heap ∧ va_K (dC, dI) classes [(cI, .int)] U ∧ va_D (fun _ => True) [(h0, .inr (9, [.ref q_kind, .ref q_code, .ref q_need, .ref q_strength, .ref q_base, .ref q_inputs, .ref q_body, .int q_count, .ref q_values, .int q_height, .int q_ready]))])) (va_Qv (fun (_ : Unit) => True) (fun (_ : Unit) t => va_P (dC, dI) classes [(h0, .inr (9, [.ref q_kind, .ref q_code, .ref q_need, .ref q_strength, .ref q_base, .ref q_inputs, .ref q_body, .int q_count, .ref q_values, .int (m_Waiting_release_w0_9 q_height a), .int q_ready]))] t.heap ∧ va_K (dC, dI) classes [(cI, .int)] t ∧ va_D (va_A [(h0, .inr (9, [.ref q_kind, .ref q_code, .ref q_need, .ref q_strength, .ref q_base, .ref q_inputs, .ref q_body, .int q_count, .ref q_values, .int q_height, .int q_ready]))] sz) [(h0, .inr (9, [.ref q_kind, .ref q_code, .ref q_need, .ref q_strength, .ref q_base, .ref q_inputs, .ref q_body, .int q_count, .ref q_values, .int (m_Waiting_release_w0_9 q_height a), .int q_ready]))]) (va_A [(h0, .inr (9, [.ref q_kind, .ref q_code, .ref q_need, .ref q_strength, .ref q_base, .ref q_inputs, .ref q_body, .int q_count, .ref q_values, .int q_height, .int q_ready]))] sz)) 0 0 (va_A [(h0, .inr (9, [.ref q_kind, .ref q_code, .ref q_need, .ref q_strength, .ref q_base, .ref q_inputs, .ref q_body, .int q_count, .ref q_values, .int q_height, .int q_ready]))] sz) := by
  refine Met.ofW (cc := b_Waiting_release) (maxL := 2) (ret := none) (by decide) rfl ?_
  intro p e s m args below meth c s₁ B hml hv
  obtain ⟨rfl, hsz, hP, hK, hD0⟩ := hv
  have hx := B.exec
  have hb := B.bytes
  have hr := B.returns
  have hts := atoms_spec (ws := w_Waiting_release) B.pre
  have htt : ∀ w ∈ tw_T, w.before _ s = true := fun w h => hts w (List.mem_cons_of_mem _ h)
  have hown : s.vm.findClass R_Waiting = some m.cls := findClass_of_methodNamed B.named
  have hlocks := B.notSynchronized
  subst hsz
  have hD := hD0.self (sz := s.heap.size)
  generalize hAe : va_A [(h0, .inr (9, [.ref q_kind, .ref q_code, .ref q_need, .ref q_strength, .ref q_base, .ref q_inputs, .ref q_body, .int q_count, .ref q_values, .int q_height, .int q_ready]))] s.heap.size = A at hD ⊢
  have hA : ∀ q : Nat, s.heap.size ≤ q → A q := fun q h => by rw [← hAe]; exact Or.inr h
  have hS : va_S A s.heap s.heap [] := va_S.rf
  have hP : va_P (dC, dI) classes [(h0, .inr (9, [.ref q_kind, .ref q_code, .ref q_need, .ref q_strength, .ref q_base, .ref q_inputs, .ref q_body, .int q_count, .ref q_values, .int q_height, .int q_ready]))] s.heap := hP
  have hl := lv_entry ([.ref h0, .int a]) (n := 2) (Nat.le_of_ble_eq_true rfl)
  rw [lg_entry_eq]
  generalize (lg_sl ([.ref h0, .int a]) ++ List.replicate (2 - (lg_sl ([.ref h0, .int a])).length) Slot.unset).toArray = ls at hl ⊢
  have hl : lv_has ls 2 [(0, .ref h0), (1, .int a)] := hl
  refine lv_aload_n hx hb d_Waiting_release_0 rfl (lv_at hl 0 rfl) ?_
  refine lv_aload_n hx hb d_Waiting_release_1 rfl (lv_at hl 0 rfl) ?_
  refine va_get (D := (dC, dI)) (ci := 9) (v := .int q_height) (C := R_Waiting) (T := F_Waiting) (N := 11) hx hb htt iw_Waiting hown hK hP 0 rfl rfl 9 (by decide) (htt _ lk_Waiting_40) (fun _ h9 => h9) rfl d_Waiting_release_2 ?_
  refine lv_iload_n hx hb d_Waiting_release_5 rfl (lv_at hl 1 rfl) ?_
  refine lv_isub hx hb d_Waiting_release_6 ?_
  refine lv_iconst (v := 0) hx hb d_Waiting_release_7 (by decide) ?_
  have hPc := hP.sub (ws' := []) [] rfl
  have hDc := hD.sub (ws' := []) [] (by decide) rfl
  have hKc := hK.sub (tys' := []) [] rfl
  have hFc := va_free (wc := []) hD hS hA [] rfl
  refine va_calli (va_runS (As := [.int (q_height - a), .int 0]) (rest := [.ref h0]) ⟨hx, hb, hml, hown, hts⟩ (c_Math_max l dC dI s.heap.size (q_height - a) 0) (va_cwS 2 hts (tw_GS tw_cons cw_Math_max lk_Waiting_56 st_Math_max ini_Math) rfl rfl rfl (by decide +kernel) ⟨Nat.le_of_ble_eq_true rfl, Nat.le_of_ble_eq_true rfl⟩) ⟨fun a U g mk q => by obtain ⟨q0, q1, qP, qK, qD⟩ := q; exact ⟨q0, q1, qP, va_K.moved (u := U) (U := U.calling g mk a) (Vm.Alike.refl U.vm) qK, qD⟩, fun U hU hW => ⟨rfl, by rw [hU], by rw [hU]; exact hPc, va_K.moved hW.alike hKc, hDc.weaken (fun _ _ _ _ => trivial)⟩⟩ rfl rfl hl.1 rfl (lv_room (Nat.le_of_ble_eq_true rfl)) d_Waiting_release_8 ⟨Nat.le_of_ble_eq_true rfl, Nat.le_of_ble_eq_true rfl⟩) hS (fun q _ h => hFc q h) hFc (fun r9 u9 t9 H1 locs ht hvm e9 hB hz1 hk1 hS => ?_)
  obtain ⟨hP1, hK1, hD1⟩ := hB
  rw [ht] at hP1
  obtain ⟨hP, hD⟩ := va_join (wr := [(h0, .inr (9, [.ref q_kind, .ref q_code, .ref q_need, .ref q_strength, .ref q_base, .ref q_inputs, .ref q_body, .int q_count, .ref q_values, .int q_height, .int q_ready]))]) (w1 := []) hP hD [] [0] rfl rfl (by decide) (by decide) hk1 hFc hP1 hD1
  subst e9
  clear hP1 hD1 hK1 hvm hz1 hk1 hFc hKc hDc hPc
  subst ht
  generalize t9.heap = H at hP hS ⊢
  have hP : va_P (dC, dI) classes [(h0, .inr (9, [.ref q_kind, .ref q_code, .ref q_need, .ref q_strength, .ref q_base, .ref q_inputs, .ref q_body, .int q_count, .ref q_values, .int q_height, .int q_ready]))] H := hP
  have hD : va_D A [(h0, .inr (9, [.ref q_kind, .ref q_code, .ref q_need, .ref q_strength, .ref q_base, .ref q_inputs, .ref q_body, .int q_count, .ref q_values, .int q_height, .int q_ready]))] := hD
  refine lv_topi (fun x_1 ex_1 => ?_)
  refine va_put (D := (dC, dI)) (ci := 9) (v := .int x_1) (ty := .int) (C := R_Waiting) (T := F_Waiting) (N := 11) hx hb htt iw_Waiting t_Waiting t_Waiting_ok n_Waiting hown hK hP hD hS 0 rfl rfl 9 (by decide) (htt _ lk_Waiting_40) (fun _ h9 => h9) rfl (by decide +kernel) rfl rfl (Nat.le_of_ble_eq_true rfl) d_Waiting_release_11 (fun H locs hP hD hS => ?_)
  have hP : va_P (dC, dI) classes [(h0, .inr (9, [.ref q_kind, .ref q_code, .ref q_need, .ref q_strength, .ref q_base, .ref q_inputs, .ref q_body, .int q_count, .ref q_values, .int x_1, .int q_ready]))] H := hP
  have hD : va_D A [(h0, .inr (9, [.ref q_kind, .ref q_code, .ref q_need, .ref q_strength, .ref q_base, .ref q_inputs, .ref q_body, .int q_count, .ref q_values, .int x_1, .int q_ready]))] := hD
  subst ex_1
  have hP9 := hP.sub (ws' := [(h0, .inr (9, [.ref q_kind, .ref q_code, .ref q_need, .ref q_strength, .ref q_base, .ref q_inputs, .ref q_body, .int q_count, .ref q_values, .int ((m_Math_max_r (q_height - a) 0)), .int q_ready]))]) [0] rfl
  have hD9 := hD.sub (ws' := [(h0, .inr (9, [.ref q_kind, .ref q_code, .ref q_need, .ref q_strength, .ref q_base, .ref q_inputs, .ref q_body, .int q_count, .ref q_values, .int ((m_Math_max_r (q_height - a) 0)), .int q_ready]))]) [0] (by decide) rfl
  have eW : [(h0, .inr (9, [.ref q_kind, .ref q_code, .ref q_need, .ref q_strength, .ref q_base, .ref q_inputs, .ref q_body, .int q_count, .ref q_values, .int ((m_Math_max_r (q_height - a) 0)), .int q_ready]))] = ([(h0, .inr (9, [.ref q_kind, .ref q_code, .ref q_need, .ref q_strength, .ref q_base, .ref q_inputs, .ref q_body, .int q_count, .ref q_values, .int (m_Waiting_release_w0_9 q_height a), .int q_ready]))] : va_W) := by unfold m_Waiting_release_w0_9; rfl
  rw [eW] at hP9 hD9
  exact W.vret hx hb hr (fun t9 ht hW => ⟨⟨(), rfl, trivial, by rw [ht]; exact hP9, va_K.moved hW.alike hK, hD9⟩, hS.F ht⟩) hS.2.2 d_Waiting_release_14

def m_Waiting_input_r (q_height : Int32) (q_values_v : Nat → Int32) (a : Int32) : Int32 := if (q_height + a) < ((0 : Int32)) then (-2147483648) else if ((32000 : Int32)) ≤ (q_height + a) then (-2147483648) else q_values_v (q_height + a).toNatClampNeg
set_option maxHeartbeats 4000000 in
set_option maxRecDepth 100000 in
theorem c_Waiting_input (l : Launch) (dC : Nat → ClassId) (dI : Nat → Nat → Nat) (sz : Nat) (h0 : Nat) (q_kind : Nat) (q_code : Nat) (q_need : Nat) (q_strength : Nat) (q_base : Nat) (q_inputs : Nat) (q_body : Nat) (q_count : Int32) (q_values : Nat) (q_height : Int32) (q_ready : Int32) (q_values_v : Nat → Int32) (cI : ClassId) (a : Int32)  : Met l y_Waiting_input w_Waiting_input ({ frames := 0, cells := 0, slots := 0, locals := 0 }) (va_Pc [.ref h0, .int a] (fun U => U.heap.size = sz ∧ va_P (dC, dI) classes [(h0, .inr (9, [.ref q_kind, .ref q_code, .ref q_need, .ref q_strength, .ref q_base, .ref q_inputs, .ref q_body, .int q_count, .ref q_values, .int q_height, .int q_ready])), (q_values, .inl (cI, 32000, .inl q_values_v))] U.heap ∧ va_K (dC, dI) classes [(cI, .int)] U ∧ va_D (fun _ => True) [(h0, .inr (9, [.ref q_kind, .ref q_code, .ref q_need, .ref q_strength, .ref q_base, .ref q_inputs, .ref q_body, .int q_count, .ref q_values, .int q_height, .int q_ready])), (q_values, .inl (cI, 32000, .inl q_values_v))])) (va_Qi (fun (r : Int32) (_ : Unit) => r = m_Waiting_input_r q_height q_values_v a) (fun (_ : Unit) t => va_P (dC, dI) classes [(h0, .inr (9, [.ref q_kind, .ref q_code, .ref q_need, .ref q_strength, .ref q_base, .ref q_inputs, .ref q_body, .int q_count, .ref q_values, .int q_height, .int q_ready])), (q_values, .inl (cI, 32000, .inl q_values_v))] t.heap ∧ va_K (dC, dI) classes [(cI, .int)] t ∧ va_D (va_A [(h0, .inr (9, [.ref q_kind, .ref q_code, .ref q_need, .ref q_strength, .ref q_base, .ref q_inputs, .ref q_body, .int q_count, .ref q_values, .int q_height, .int q_ready])), (q_values, .inl (cI, 32000, .inl q_values_v))] sz) [(h0, .inr (9, [.ref q_kind, .ref q_code, .ref q_need, .ref q_strength, .ref q_base, .ref q_inputs, .ref q_body, .int q_count, .ref q_values, .int q_height, .int q_ready])), (q_values, .inl (cI, 32000, .inl q_values_v))]) (va_A [(h0, .inr (9, [.ref q_kind, .ref q_code, .ref q_need, .ref q_strength, .ref q_base, .ref q_inputs, .ref q_body, .int q_count, .ref q_values, .int q_height, .int q_ready])), (q_values, .inl (cI, 32000, .inl q_values_v))] sz)) 0 0 (va_A [(h0, .inr (9, [.ref q_kind, .ref q_code, .ref q_need, .ref q_strength, .ref q_base, .ref q_inputs, .ref q_body, .int q_count, .ref q_values, .int q_height, .int q_ready])), (q_values, .inl (cI, 32000, .inl q_values_v))] sz) := by
  refine Met.ofW (cc := b_Waiting_input) (maxL := 3) (ret := (some .int)) (by decide) rfl ?_
  intro p e s m args below meth c s₁ B hml hv
  obtain ⟨rfl, hsz, hP, hK, hD0⟩ := hv
  have hx := B.exec
  have hb := B.bytes
  have hr := B.returns
  have hts := atoms_spec (ws := w_Waiting_input) B.pre
  have htt : ∀ w ∈ tw_T, w.before _ s = true := fun w h => hts w (List.mem_cons_of_mem _ h)
  have hown : s.vm.findClass R_Waiting = some m.cls := findClass_of_methodNamed B.named
  have hlocks := B.notSynchronized
  subst hsz
  have hD := hD0.self (sz := s.heap.size)
  generalize hAe : va_A [(h0, .inr (9, [.ref q_kind, .ref q_code, .ref q_need, .ref q_strength, .ref q_base, .ref q_inputs, .ref q_body, .int q_count, .ref q_values, .int q_height, .int q_ready])), (q_values, .inl (cI, 32000, .inl q_values_v))] s.heap.size = A at hD ⊢
  have hA : ∀ q : Nat, s.heap.size ≤ q → A q := fun q h => by rw [← hAe]; exact Or.inr h
  have hS : va_S A s.heap s.heap [] := va_S.rf
  have hP : va_P (dC, dI) classes [(h0, .inr (9, [.ref q_kind, .ref q_code, .ref q_need, .ref q_strength, .ref q_base, .ref q_inputs, .ref q_body, .int q_count, .ref q_values, .int q_height, .int q_ready])), (q_values, .inl (cI, 32000, .inl q_values_v))] s.heap := hP
  have hl := lv_entry ([.ref h0, .int a]) (n := 3) (Nat.le_of_ble_eq_true rfl)
  rw [lg_entry_eq]
  generalize (lg_sl ([.ref h0, .int a]) ++ List.replicate (3 - (lg_sl ([.ref h0, .int a])).length) Slot.unset).toArray = ls at hl ⊢
  have hl : lv_has ls 3 [(0, .ref h0), (1, .int a)] := hl
  refine lv_aload_n hx hb d_Waiting_input_0 rfl (lv_at hl 0 rfl) ?_
  refine va_get (D := (dC, dI)) (ci := 9) (v := .int q_height) (C := R_Waiting) (T := F_Waiting) (N := 11) hx hb htt iw_Waiting hown hK hP 0 rfl rfl 9 (by decide) (htt _ lk_Waiting_40) (fun _ h9 => h9) rfl d_Waiting_input_1 ?_
  refine lv_iload_n hx hb d_Waiting_input_4 rfl (lv_at hl 1 rfl) ?_
  refine lv_iadd hx hb d_Waiting_input_5 ?_
  refine lv_topi (fun x_1 ex_1 => ?_)
  refine lv_istore_n (lv' := [(2, .int x_1), (0, .ref h0), (1, .int a)]) hx hb d_Waiting_input_6 rfl hl (by decide) rfl (fun ls hl => ?_)
  refine lv_iload_n hx hb d_Waiting_input_7 rfl (lv_at hl 0 rfl) ?_
  refine lv_if_lt (tgt := 27) hx hb d_Waiting_input_8 (by decide) (fun c_2 => ?_) (fun c_2 => ?_)
  · refine lv_ldc (v := (-2147483648)) hx hb hown (htt _ lk_Waiting_62) d_Waiting_input_27 ?_
    subst ex_1
    have hP9 := hP.sub (ws' := [(h0, .inr (9, [.ref q_kind, .ref q_code, .ref q_need, .ref q_strength, .ref q_base, .ref q_inputs, .ref q_body, .int q_count, .ref q_values, .int q_height, .int q_ready])), (q_values, .inl (cI, 32000, .inl q_values_v))]) [0, 1] rfl
    have hD9 := hD.sub (ws' := [(h0, .inr (9, [.ref q_kind, .ref q_code, .ref q_need, .ref q_strength, .ref q_base, .ref q_inputs, .ref q_body, .int q_count, .ref q_values, .int q_height, .int q_ready])), (q_values, .inl (cI, 32000, .inl q_values_v))]) [0, 1] (by decide) rfl
    exact W.iret (v := (-2147483648)) hx hb hr (fun t9 ht hW => ⟨⟨(-2147483648), (), rfl, by unfold m_Waiting_input_r; simp only [if_pos c_2], by rw [ht]; exact hP9, va_K.moved hW.alike hK, hD9⟩, hS.F ht⟩) hS.2.2 d_Waiting_input_29
  · refine lv_iload_n hx hb d_Waiting_input_11 rfl (lv_at hl 0 rfl) ?_
    refine lv_sipush (v := 32000) hx hb d_Waiting_input_12 (by decide) ?_
    refine lv_icmp_ge (tgt := 27) hx hb d_Waiting_input_15 (by decide) (fun c_3 => ?_) (fun c_3 => ?_)
    · refine lv_ldc (v := (-2147483648)) hx hb hown (htt _ lk_Waiting_62) d_Waiting_input_27 ?_
      subst ex_1
      have hP9 := hP.sub (ws' := [(h0, .inr (9, [.ref q_kind, .ref q_code, .ref q_need, .ref q_strength, .ref q_base, .ref q_inputs, .ref q_body, .int q_count, .ref q_values, .int q_height, .int q_ready])), (q_values, .inl (cI, 32000, .inl q_values_v))]) [0, 1] rfl
      have hD9 := hD.sub (ws' := [(h0, .inr (9, [.ref q_kind, .ref q_code, .ref q_need, .ref q_strength, .ref q_base, .ref q_inputs, .ref q_body, .int q_count, .ref q_values, .int q_height, .int q_ready])), (q_values, .inl (cI, 32000, .inl q_values_v))]) [0, 1] (by decide) rfl
      exact W.iret (v := (-2147483648)) hx hb hr (fun t9 ht hW => ⟨⟨(-2147483648), (), rfl, by unfold m_Waiting_input_r; simp only [if_neg c_2, if_pos c_3], by rw [ht]; exact hP9, va_K.moved hW.alike hK, hD9⟩, hS.F ht⟩) hS.2.2 d_Waiting_input_29
    · refine lv_aload_n hx hb d_Waiting_input_18 rfl (lv_at hl 1 rfl) ?_
      refine va_get (D := (dC, dI)) (ci := 9) (v := .ref q_values) (C := R_Waiting) (T := F_Waiting) (N := 11) hx hb htt iw_Waiting hown hK hP 0 rfl rfl 8 (by decide) (htt _ lk_Waiting_33) (fun _ h9 => h9) rfl d_Waiting_input_19 ?_
      refine lv_iload_n hx hb d_Waiting_input_22 rfl (lv_at hl 0 rfl) ?_
      have h_4 : vp_in x_1 32000 := by rw [vp_in_iff]; simp only [Int32.lt_iff_toInt_lt, Int32.le_iff_toInt_le, Int32.reduceToInt] at c_2 c_3 ⊢; omega
      refine va_iald hx hb hK hP 1 0 rfl rfl h_4 d_Waiting_input_23 ?_
      refine lv_goto (tgt := 29) hx hb d_Waiting_input_24 (by decide) ?_
      subst ex_1
      have hP9 := hP.sub (ws' := [(h0, .inr (9, [.ref q_kind, .ref q_code, .ref q_need, .ref q_strength, .ref q_base, .ref q_inputs, .ref q_body, .int q_count, .ref q_values, .int q_height, .int q_ready])), (q_values, .inl (cI, 32000, .inl q_values_v))]) [0, 1] rfl
      have hD9 := hD.sub (ws' := [(h0, .inr (9, [.ref q_kind, .ref q_code, .ref q_need, .ref q_strength, .ref q_base, .ref q_inputs, .ref q_body, .int q_count, .ref q_values, .int q_height, .int q_ready])), (q_values, .inl (cI, 32000, .inl q_values_v))]) [0, 1] (by decide) rfl
      exact W.iret (v := q_values_v (q_height + a).toNatClampNeg) hx hb hr (fun t9 ht hW => ⟨⟨q_values_v (q_height + a).toNatClampNeg, (), rfl, by unfold m_Waiting_input_r; simp only [if_neg c_2, if_neg c_3], by rw [ht]; exact hP9, va_K.moved hW.alike hK, hD9⟩, hS.F ht⟩) hS.2.2 d_Waiting_input_29

def m_Names_addLocal_w0_6 (n_locals : Int32) : Int32 := if ((1800 : Int32)) ≤ n_locals then n_locals else (n_locals + 1)
def m_Names_addLocal_w1 (n_locals : Int32) (n_localNames_v : Nat → Int32) (a : Int32) : Nat → Int32 := if ((1800 : Int32)) ≤ n_locals then n_localNames_v else upd n_localNames_v n_locals.toNatClampNeg a
def m_Names_addLocal_w2 (n_locals : Int32) (n_localValues_v : Nat → Int32) (b : Int32) : Nat → Int32 := if ((1800 : Int32)) ≤ n_locals then n_localValues_v else upd n_localValues_v n_locals.toNatClampNeg b
set_option maxHeartbeats 4000000 in
set_option maxRecDepth 100000 in
theorem c_Names_addLocal (l : Launch) (dC : Nat → ClassId) (dI : Nat → Nat → Nat) (sz : Nat) (h0 : Nat) (n_heap : Nat) (n_globalNames : Nat) (n_globalValues : Nat) (n_globals : Int32) (n_localNames : Nat) (n_localValues : Nat) (n_locals : Int32) (n_keptValues : Nat) (n_keptGlobals : Int32) (n_localNames_v : Nat → Int32) (n_localValues_v : Nat → Int32) (cI : ClassId) (a : Int32) (b : Int32) (hlo : ¬ n_locals < 0) : Met l y_Names_addLocal w_Names_addLocal ({ frames := 0, cells := 0, slots := 0, locals := 0 }) (va_Pc [.ref h0, .int a, .int b] (fun U => U.heap.size = sz ∧ va_P (dC, dI) classes [(h0, .inr (3, [.ref n_heap, .ref n_globalNames, .ref n_globalValues, .int n_globals, .ref n_localNames, .ref n_localValues, .int n_locals, .ref n_keptValues, .int n_keptGlobals])), (n_localNames, .inl (cI, 1800, .inl n_localNames_v)), (n_localValues, .inl (cI, 1800, .inl n_localValues_v))] U.heap ∧ va_K (dC, dI) classes [(cI, .int)] U ∧ va_D (fun _ => True) [(h0, .inr (3, [.ref n_heap, .ref n_globalNames, .ref n_globalValues, .int n_globals, .ref n_localNames, .ref n_localValues, .int n_locals, .ref n_keptValues, .int n_keptGlobals])), (n_localNames, .inl (cI, 1800, .inl n_localNames_v)), (n_localValues, .inl (cI, 1800, .inl n_localValues_v))])) (va_Qv (fun (_ : Unit) => True) (fun (_ : Unit) t => va_P (dC, dI) classes [(h0, .inr (3, [.ref n_heap, .ref n_globalNames, .ref n_globalValues, .int n_globals, .ref n_localNames, .ref n_localValues, .int (m_Names_addLocal_w0_6 n_locals), .ref n_keptValues, .int n_keptGlobals])), (n_localNames, .inl (cI, 1800, .inl (m_Names_addLocal_w1 n_locals n_localNames_v a))), (n_localValues, .inl (cI, 1800, .inl (m_Names_addLocal_w2 n_locals n_localValues_v b)))] t.heap ∧ va_K (dC, dI) classes [(cI, .int)] t ∧ va_D (va_A [(h0, .inr (3, [.ref n_heap, .ref n_globalNames, .ref n_globalValues, .int n_globals, .ref n_localNames, .ref n_localValues, .int n_locals, .ref n_keptValues, .int n_keptGlobals])), (n_localNames, .inl (cI, 1800, .inl n_localNames_v)), (n_localValues, .inl (cI, 1800, .inl n_localValues_v))] sz) [(h0, .inr (3, [.ref n_heap, .ref n_globalNames, .ref n_globalValues, .int n_globals, .ref n_localNames, .ref n_localValues, .int (m_Names_addLocal_w0_6 n_locals), .ref n_keptValues, .int n_keptGlobals])), (n_localNames, .inl (cI, 1800, .inl (m_Names_addLocal_w1 n_locals n_localNames_v a))), (n_localValues, .inl (cI, 1800, .inl (m_Names_addLocal_w2 n_locals n_localValues_v b)))]) (va_A [(h0, .inr (3, [.ref n_heap, .ref n_globalNames, .ref n_globalValues, .int n_globals, .ref n_localNames, .ref n_localValues, .int n_locals, .ref n_keptValues, .int n_keptGlobals])), (n_localNames, .inl (cI, 1800, .inl n_localNames_v)), (n_localValues, .inl (cI, 1800, .inl n_localValues_v))] sz)) 0 0 (va_A [(h0, .inr (3, [.ref n_heap, .ref n_globalNames, .ref n_globalValues, .int n_globals, .ref n_localNames, .ref n_localValues, .int n_locals, .ref n_keptValues, .int n_keptGlobals])), (n_localNames, .inl (cI, 1800, .inl n_localNames_v)), (n_localValues, .inl (cI, 1800, .inl n_localValues_v))] sz) := by
  refine Met.ofW (cc := b_Names_addLocal) (maxL := 3) (ret := none) (by decide) rfl ?_
  intro p e s m args below meth c s₁ B hml hv
  obtain ⟨rfl, hsz, hP, hK, hD0⟩ := hv
  have hx := B.exec
  have hb := B.bytes
  have hr := B.returns
  have hts := atoms_spec (ws := w_Names_addLocal) B.pre
  have htt : ∀ w ∈ tw_T, w.before _ s = true := fun w h => hts w (List.mem_cons_of_mem _ h)
  have hown : s.vm.findClass R_Names = some m.cls := findClass_of_methodNamed B.named
  have hlocks := B.notSynchronized
  subst hsz
  have hD := hD0.self (sz := s.heap.size)
  generalize hAe : va_A [(h0, .inr (3, [.ref n_heap, .ref n_globalNames, .ref n_globalValues, .int n_globals, .ref n_localNames, .ref n_localValues, .int n_locals, .ref n_keptValues, .int n_keptGlobals])), (n_localNames, .inl (cI, 1800, .inl n_localNames_v)), (n_localValues, .inl (cI, 1800, .inl n_localValues_v))] s.heap.size = A at hD ⊢
  have hA : ∀ q : Nat, s.heap.size ≤ q → A q := fun q h => by rw [← hAe]; exact Or.inr h
  have hS : va_S A s.heap s.heap [] := va_S.rf
  have hP : va_P (dC, dI) classes [(h0, .inr (3, [.ref n_heap, .ref n_globalNames, .ref n_globalValues, .int n_globals, .ref n_localNames, .ref n_localValues, .int n_locals, .ref n_keptValues, .int n_keptGlobals])), (n_localNames, .inl (cI, 1800, .inl n_localNames_v)), (n_localValues, .inl (cI, 1800, .inl n_localValues_v))] s.heap := hP
  have hl := lv_entry ([.ref h0, .int a, .int b]) (n := 3) (Nat.le_of_ble_eq_true rfl)
  rw [lg_entry_eq]
  generalize (lg_sl ([.ref h0, .int a, .int b]) ++ List.replicate (3 - (lg_sl ([.ref h0, .int a, .int b])).length) Slot.unset).toArray = ls at hl ⊢
  have hl : lv_has ls 3 [(0, .ref h0), (1, .int a), (2, .int b)] := hl
  refine lv_aload_n hx hb d_Names_addLocal_0 rfl (lv_at hl 0 rfl) ?_
  refine va_get (D := (dC, dI)) (ci := 3) (v := .int n_locals) (C := R_Names) (T := F_Names) (N := 9) hx hb htt iw_Names hown hK hP 0 rfl rfl 6 (by decide) (htt _ lk_Names_31) (fun _ h9 => h9) rfl d_Names_addLocal_1 ?_
  refine lv_sipush (v := 1800) hx hb d_Names_addLocal_4 (by decide) ?_
  refine lv_icmp_ge (tgt := 40) hx hb d_Names_addLocal_7 (by decide) (fun c_1 => ?_) (fun c_1 => ?_)
  · have hP9 := hP.sub (ws' := [(h0, .inr (3, [.ref n_heap, .ref n_globalNames, .ref n_globalValues, .int n_globals, .ref n_localNames, .ref n_localValues, .int n_locals, .ref n_keptValues, .int n_keptGlobals])), (n_localNames, .inl (cI, 1800, .inl n_localNames_v)), (n_localValues, .inl (cI, 1800, .inl n_localValues_v))]) [0, 1, 2] rfl
    have hD9 := hD.sub (ws' := [(h0, .inr (3, [.ref n_heap, .ref n_globalNames, .ref n_globalValues, .int n_globals, .ref n_localNames, .ref n_localValues, .int n_locals, .ref n_keptValues, .int n_keptGlobals])), (n_localNames, .inl (cI, 1800, .inl n_localNames_v)), (n_localValues, .inl (cI, 1800, .inl n_localValues_v))]) [0, 1, 2] (by decide) rfl
    have eW : [(h0, .inr (3, [.ref n_heap, .ref n_globalNames, .ref n_globalValues, .int n_globals, .ref n_localNames, .ref n_localValues, .int n_locals, .ref n_keptValues, .int n_keptGlobals])), (n_localNames, .inl (cI, 1800, .inl n_localNames_v)), (n_localValues, .inl (cI, 1800, .inl n_localValues_v))] = ([(h0, .inr (3, [.ref n_heap, .ref n_globalNames, .ref n_globalValues, .int n_globals, .ref n_localNames, .ref n_localValues, .int (m_Names_addLocal_w0_6 n_locals), .ref n_keptValues, .int n_keptGlobals])), (n_localNames, .inl (cI, 1800, .inl (m_Names_addLocal_w1 n_locals n_localNames_v a))), (n_localValues, .inl (cI, 1800, .inl (m_Names_addLocal_w2 n_locals n_localValues_v b)))] : va_W) := by unfold m_Names_addLocal_w0_6 m_Names_addLocal_w1 m_Names_addLocal_w2; simp only [if_pos c_1]
    rw [eW] at hP9 hD9
    exact W.vret hx hb hr (fun t9 ht hW => ⟨⟨(), rfl, trivial, by rw [ht]; exact hP9, va_K.moved hW.alike hK, hD9⟩, hS.F ht⟩) hS.2.2 d_Names_addLocal_40
  · refine lv_aload_n hx hb d_Names_addLocal_10 rfl (lv_at hl 0 rfl) ?_
    refine va_get (D := (dC, dI)) (ci := 3) (v := .ref n_localNames) (C := R_Names) (T := F_Names) (N := 9) hx hb htt iw_Names hown hK hP 0 rfl rfl 4 (by decide) (htt _ lk_Names_18) (fun _ h9 => h9) rfl d_Names_addLocal_11 ?_
    refine lv_aload_n hx hb d_Names_addLocal_14 rfl (lv_at hl 0 rfl) ?_
    refine va_get (D := (dC, dI)) (ci := 3) (v := .int n_locals) (C := R_Names) (T := F_Names) (N := 9) hx hb htt iw_Names hown hK hP 0 rfl rfl 6 (by decide) (htt _ lk_Names_31) (fun _ h9 => h9) rfl d_Names_addLocal_15 ?_
    refine lv_iload_n hx hb d_Names_addLocal_18 rfl (lv_at hl 1 rfl) ?_
    have h_2 : vp_in n_locals 1800 := by rw [vp_in_iff]; simp only [Int32.lt_iff_toInt_lt, Int32.le_iff_toInt_le, Int32.reduceToInt] at c_1 hlo ⊢; omega
    refine va_iast hx hb hK hP hD hS 1 0 rfl rfl h_2 d_Names_addLocal_19 (fun H locs hP hD hS => ?_)
    have hP : va_P (dC, dI) classes [(h0, .inr (3, [.ref n_heap, .ref n_globalNames, .ref n_globalValues, .int n_globals, .ref n_localNames, .ref n_localValues, .int n_locals, .ref n_keptValues, .int n_keptGlobals])), (n_localNames, .inl (cI, 1800, .inl (upd n_localNames_v n_locals.toNatClampNeg a))), (n_localValues, .inl (cI, 1800, .inl n_localValues_v))] H := hP
    have hD : va_D A [(h0, .inr (3, [.ref n_heap, .ref n_globalNames, .ref n_globalValues, .int n_globals, .ref n_localNames, .ref n_localValues, .int n_locals, .ref n_keptValues, .int n_keptGlobals])), (n_localNames, .inl (cI, 1800, .inl (upd n_localNames_v n_locals.toNatClampNeg a))), (n_localValues, .inl (cI, 1800, .inl n_localValues_v))] := hD
    refine lv_aload_n hx hb d_Names_addLocal_20 rfl (lv_at hl 0 rfl) ?_
    refine va_get (D := (dC, dI)) (ci := 3) (v := .ref n_localValues) (C := R_Names) (T := F_Names) (N := 9) hx hb htt iw_Names hown hK hP 0 rfl rfl 5 (by decide) (htt _ lk_Names_21) (fun _ h9 => h9) rfl d_Names_addLocal_21 ?_
    refine lv_aload_n hx hb d_Names_addLocal_24 rfl (lv_at hl 0 rfl) ?_
    refine va_get (D := (dC, dI)) (ci := 3) (v := .int n_locals) (C := R_Names) (T := F_Names) (N := 9) hx hb htt iw_Names hown hK hP 0 rfl rfl 6 (by decide) (htt _ lk_Names_31) (fun _ h9 => h9) rfl d_Names_addLocal_25 ?_
    refine lv_iload_n hx hb d_Names_addLocal_28 rfl (lv_at hl 2 rfl) ?_
    have h_3 : vp_in n_locals 1800 := by rw [vp_in_iff]; simp only [Int32.lt_iff_toInt_lt, Int32.le_iff_toInt_le, Int32.reduceToInt] at c_1 hlo ⊢; omega
    refine va_iast hx hb hK hP hD hS 2 0 rfl rfl h_3 d_Names_addLocal_29 (fun H locs hP hD hS => ?_)
    have hP : va_P (dC, dI) classes [(h0, .inr (3, [.ref n_heap, .ref n_globalNames, .ref n_globalValues, .int n_globals, .ref n_localNames, .ref n_localValues, .int n_locals, .ref n_keptValues, .int n_keptGlobals])), (n_localNames, .inl (cI, 1800, .inl (upd n_localNames_v n_locals.toNatClampNeg a))), (n_localValues, .inl (cI, 1800, .inl (upd n_localValues_v n_locals.toNatClampNeg b)))] H := hP
    have hD : va_D A [(h0, .inr (3, [.ref n_heap, .ref n_globalNames, .ref n_globalValues, .int n_globals, .ref n_localNames, .ref n_localValues, .int n_locals, .ref n_keptValues, .int n_keptGlobals])), (n_localNames, .inl (cI, 1800, .inl (upd n_localNames_v n_locals.toNatClampNeg a))), (n_localValues, .inl (cI, 1800, .inl (upd n_localValues_v n_locals.toNatClampNeg b)))] := hD
    refine lv_aload_n hx hb d_Names_addLocal_30 rfl (lv_at hl 0 rfl) ?_
    refine lv_dup hx hb d_Names_addLocal_31 rfl ?_
    refine va_get (D := (dC, dI)) (ci := 3) (v := .int n_locals) (C := R_Names) (T := F_Names) (N := 9) hx hb htt iw_Names hown hK hP 0 rfl rfl 6 (by decide) (htt _ lk_Names_31) (fun _ h9 => h9) rfl d_Names_addLocal_32 ?_
    refine lv_iconst (v := 1) hx hb d_Names_addLocal_35 (by decide) ?_
    refine lv_iadd hx hb d_Names_addLocal_36 ?_
    refine lv_topi (fun x_4 ex_4 => ?_)
    refine va_put (D := (dC, dI)) (ci := 3) (v := .int x_4) (ty := .int) (C := R_Names) (T := F_Names) (N := 9) hx hb htt iw_Names t_Names t_Names_ok n_Names hown hK hP hD hS 0 rfl rfl 6 (by decide) (htt _ lk_Names_31) (fun _ h9 => h9) rfl (by decide +kernel) rfl rfl (Nat.le_of_ble_eq_true rfl) d_Names_addLocal_37 (fun H locs hP hD hS => ?_)
    have hP : va_P (dC, dI) classes [(h0, .inr (3, [.ref n_heap, .ref n_globalNames, .ref n_globalValues, .int n_globals, .ref n_localNames, .ref n_localValues, .int x_4, .ref n_keptValues, .int n_keptGlobals])), (n_localNames, .inl (cI, 1800, .inl (upd n_localNames_v n_locals.toNatClampNeg a))), (n_localValues, .inl (cI, 1800, .inl (upd n_localValues_v n_locals.toNatClampNeg b)))] H := hP
    have hD : va_D A [(h0, .inr (3, [.ref n_heap, .ref n_globalNames, .ref n_globalValues, .int n_globals, .ref n_localNames, .ref n_localValues, .int x_4, .ref n_keptValues, .int n_keptGlobals])), (n_localNames, .inl (cI, 1800, .inl (upd n_localNames_v n_locals.toNatClampNeg a))), (n_localValues, .inl (cI, 1800, .inl (upd n_localValues_v n_locals.toNatClampNeg b)))] := hD
    subst ex_4
    have hP9 := hP.sub (ws' := [(h0, .inr (3, [.ref n_heap, .ref n_globalNames, .ref n_globalValues, .int n_globals, .ref n_localNames, .ref n_localValues, .int ((n_locals + 1)), .ref n_keptValues, .int n_keptGlobals])), (n_localNames, .inl (cI, 1800, .inl (upd n_localNames_v n_locals.toNatClampNeg a))), (n_localValues, .inl (cI, 1800, .inl (upd n_localValues_v n_locals.toNatClampNeg b)))]) [0, 1, 2] rfl
    have hD9 := hD.sub (ws' := [(h0, .inr (3, [.ref n_heap, .ref n_globalNames, .ref n_globalValues, .int n_globals, .ref n_localNames, .ref n_localValues, .int ((n_locals + 1)), .ref n_keptValues, .int n_keptGlobals])), (n_localNames, .inl (cI, 1800, .inl (upd n_localNames_v n_locals.toNatClampNeg a))), (n_localValues, .inl (cI, 1800, .inl (upd n_localValues_v n_locals.toNatClampNeg b)))]) [0, 1, 2] (by decide) rfl
    have eW : [(h0, .inr (3, [.ref n_heap, .ref n_globalNames, .ref n_globalValues, .int n_globals, .ref n_localNames, .ref n_localValues, .int ((n_locals + 1)), .ref n_keptValues, .int n_keptGlobals])), (n_localNames, .inl (cI, 1800, .inl (upd n_localNames_v n_locals.toNatClampNeg a))), (n_localValues, .inl (cI, 1800, .inl (upd n_localValues_v n_locals.toNatClampNeg b)))] = ([(h0, .inr (3, [.ref n_heap, .ref n_globalNames, .ref n_globalValues, .int n_globals, .ref n_localNames, .ref n_localValues, .int (m_Names_addLocal_w0_6 n_locals), .ref n_keptValues, .int n_keptGlobals])), (n_localNames, .inl (cI, 1800, .inl (m_Names_addLocal_w1 n_locals n_localNames_v a))), (n_localValues, .inl (cI, 1800, .inl (m_Names_addLocal_w2 n_locals n_localValues_v b)))] : va_W) := by unfold m_Names_addLocal_w0_6 m_Names_addLocal_w1 m_Names_addLocal_w2; simp only [if_neg c_1]
    rw [eW] at hP9 hD9
    exact W.vret hx hb hr (fun t9 ht hW => ⟨⟨(), rfl, trivial, by rw [ht]; exact hP9, va_K.moved hW.alike hK, hD9⟩, hS.F ht⟩) hS.2.2 d_Names_addLocal_40

def m_Names_dropLocals_w0_6 (n_locals : Int32) (a : Int32) : Int32 := if a < ((0 : Int32)) then n_locals else if n_locals ≤ a then n_locals else a
set_option maxHeartbeats 4000000 in
set_option maxRecDepth 100000 in
theorem c_Names_dropLocals (l : Launch) (dC : Nat → ClassId) (dI : Nat → Nat → Nat) (sz : Nat) (h0 : Nat) (n_heap : Nat) (n_globalNames : Nat) (n_globalValues : Nat) (n_globals : Int32) (n_localNames : Nat) (n_localValues : Nat) (n_locals : Int32) (n_keptValues : Nat) (n_keptGlobals : Int32) (cI : ClassId) (a : Int32)  : Met l y_Names_dropLocals w_Names_dropLocals ({ frames := 0, cells := 0, slots := 0, locals := 0 }) (va_Pc [.ref h0, .int a] (fun U => U.heap.size = sz ∧ va_P (dC, dI) classes [(h0, .inr (3, [.ref n_heap, .ref n_globalNames, .ref n_globalValues, .int n_globals, .ref n_localNames, .ref n_localValues, .int n_locals, .ref n_keptValues, .int n_keptGlobals]))] U.heap ∧ va_K (dC, dI) classes [(cI, .int)] U ∧ va_D (fun _ => True) [(h0, .inr (3, [.ref n_heap, .ref n_globalNames, .ref n_globalValues, .int n_globals, .ref n_localNames, .ref n_localValues, .int n_locals, .ref n_keptValues, .int n_keptGlobals]))])) (va_Qv (fun (_ : Unit) => True) (fun (_ : Unit) t => va_P (dC, dI) classes [(h0, .inr (3, [.ref n_heap, .ref n_globalNames, .ref n_globalValues, .int n_globals, .ref n_localNames, .ref n_localValues, .int (m_Names_dropLocals_w0_6 n_locals a), .ref n_keptValues, .int n_keptGlobals]))] t.heap ∧ va_K (dC, dI) classes [(cI, .int)] t ∧ va_D (va_A [(h0, .inr (3, [.ref n_heap, .ref n_globalNames, .ref n_globalValues, .int n_globals, .ref n_localNames, .ref n_localValues, .int n_locals, .ref n_keptValues, .int n_keptGlobals]))] sz) [(h0, .inr (3, [.ref n_heap, .ref n_globalNames, .ref n_globalValues, .int n_globals, .ref n_localNames, .ref n_localValues, .int (m_Names_dropLocals_w0_6 n_locals a), .ref n_keptValues, .int n_keptGlobals]))]) (va_A [(h0, .inr (3, [.ref n_heap, .ref n_globalNames, .ref n_globalValues, .int n_globals, .ref n_localNames, .ref n_localValues, .int n_locals, .ref n_keptValues, .int n_keptGlobals]))] sz)) 0 0 (va_A [(h0, .inr (3, [.ref n_heap, .ref n_globalNames, .ref n_globalValues, .int n_globals, .ref n_localNames, .ref n_localValues, .int n_locals, .ref n_keptValues, .int n_keptGlobals]))] sz) := by
  refine Met.ofW (cc := b_Names_dropLocals) (maxL := 2) (ret := none) (by decide) rfl ?_
  intro p e s m args below meth c s₁ B hml hv
  obtain ⟨rfl, hsz, hP, hK, hD0⟩ := hv
  have hx := B.exec
  have hb := B.bytes
  have hr := B.returns
  have hts := atoms_spec (ws := w_Names_dropLocals) B.pre
  have htt : ∀ w ∈ tw_T, w.before _ s = true := fun w h => hts w (List.mem_cons_of_mem _ h)
  have hown : s.vm.findClass R_Names = some m.cls := findClass_of_methodNamed B.named
  have hlocks := B.notSynchronized
  subst hsz
  have hD := hD0.self (sz := s.heap.size)
  generalize hAe : va_A [(h0, .inr (3, [.ref n_heap, .ref n_globalNames, .ref n_globalValues, .int n_globals, .ref n_localNames, .ref n_localValues, .int n_locals, .ref n_keptValues, .int n_keptGlobals]))] s.heap.size = A at hD ⊢
  have hA : ∀ q : Nat, s.heap.size ≤ q → A q := fun q h => by rw [← hAe]; exact Or.inr h
  have hS : va_S A s.heap s.heap [] := va_S.rf
  have hP : va_P (dC, dI) classes [(h0, .inr (3, [.ref n_heap, .ref n_globalNames, .ref n_globalValues, .int n_globals, .ref n_localNames, .ref n_localValues, .int n_locals, .ref n_keptValues, .int n_keptGlobals]))] s.heap := hP
  have hl := lv_entry ([.ref h0, .int a]) (n := 2) (Nat.le_of_ble_eq_true rfl)
  rw [lg_entry_eq]
  generalize (lg_sl ([.ref h0, .int a]) ++ List.replicate (2 - (lg_sl ([.ref h0, .int a])).length) Slot.unset).toArray = ls at hl ⊢
  have hl : lv_has ls 2 [(0, .ref h0), (1, .int a)] := hl
  refine lv_iload_n hx hb d_Names_dropLocals_0 rfl (lv_at hl 1 rfl) ?_
  refine lv_if_lt (tgt := 17) hx hb d_Names_dropLocals_1 (by decide) (fun c_1 => ?_) (fun c_1 => ?_)
  · have hP9 := hP.sub (ws' := [(h0, .inr (3, [.ref n_heap, .ref n_globalNames, .ref n_globalValues, .int n_globals, .ref n_localNames, .ref n_localValues, .int n_locals, .ref n_keptValues, .int n_keptGlobals]))]) [0] rfl
    have hD9 := hD.sub (ws' := [(h0, .inr (3, [.ref n_heap, .ref n_globalNames, .ref n_globalValues, .int n_globals, .ref n_localNames, .ref n_localValues, .int n_locals, .ref n_keptValues, .int n_keptGlobals]))]) [0] (by decide) rfl
    have eW : [(h0, .inr (3, [.ref n_heap, .ref n_globalNames, .ref n_globalValues, .int n_globals, .ref n_localNames, .ref n_localValues, .int n_locals, .ref n_keptValues, .int n_keptGlobals]))] = ([(h0, .inr (3, [.ref n_heap, .ref n_globalNames, .ref n_globalValues, .int n_globals, .ref n_localNames, .ref n_localValues, .int (m_Names_dropLocals_w0_6 n_locals a), .ref n_keptValues, .int n_keptGlobals]))] : va_W) := by unfold m_Names_dropLocals_w0_6; simp only [if_pos c_1]
    rw [eW] at hP9 hD9
    exact W.vret hx hb hr (fun t9 ht hW => ⟨⟨(), rfl, trivial, by rw [ht]; exact hP9, va_K.moved hW.alike hK, hD9⟩, hS.F ht⟩) hS.2.2 d_Names_dropLocals_17
  · refine lv_iload_n hx hb d_Names_dropLocals_4 rfl (lv_at hl 1 rfl) ?_
    refine lv_aload_n hx hb d_Names_dropLocals_5 rfl (lv_at hl 0 rfl) ?_
    refine va_get (D := (dC, dI)) (ci := 3) (v := .int n_locals) (C := R_Names) (T := F_Names) (N := 9) hx hb htt iw_Names hown hK hP 0 rfl rfl 6 (by decide) (htt _ lk_Names_31) (fun _ h9 => h9) rfl d_Names_dropLocals_6 ?_
    refine lv_icmp_ge (tgt := 17) hx hb d_Names_dropLocals_9 (by decide) (fun c_2 => ?_) (fun c_2 => ?_)
    · have hP9 := hP.sub (ws' := [(h0, .inr (3, [.ref n_heap, .ref n_globalNames, .ref n_globalValues, .int n_globals, .ref n_localNames, .ref n_localValues, .int n_locals, .ref n_keptValues, .int n_keptGlobals]))]) [0] rfl
      have hD9 := hD.sub (ws' := [(h0, .inr (3, [.ref n_heap, .ref n_globalNames, .ref n_globalValues, .int n_globals, .ref n_localNames, .ref n_localValues, .int n_locals, .ref n_keptValues, .int n_keptGlobals]))]) [0] (by decide) rfl
      have eW : [(h0, .inr (3, [.ref n_heap, .ref n_globalNames, .ref n_globalValues, .int n_globals, .ref n_localNames, .ref n_localValues, .int n_locals, .ref n_keptValues, .int n_keptGlobals]))] = ([(h0, .inr (3, [.ref n_heap, .ref n_globalNames, .ref n_globalValues, .int n_globals, .ref n_localNames, .ref n_localValues, .int (m_Names_dropLocals_w0_6 n_locals a), .ref n_keptValues, .int n_keptGlobals]))] : va_W) := by unfold m_Names_dropLocals_w0_6; simp only [if_neg c_1, if_pos c_2]
      rw [eW] at hP9 hD9
      exact W.vret hx hb hr (fun t9 ht hW => ⟨⟨(), rfl, trivial, by rw [ht]; exact hP9, va_K.moved hW.alike hK, hD9⟩, hS.F ht⟩) hS.2.2 d_Names_dropLocals_17
    · refine lv_aload_n hx hb d_Names_dropLocals_12 rfl (lv_at hl 0 rfl) ?_
      refine lv_iload_n hx hb d_Names_dropLocals_13 rfl (lv_at hl 1 rfl) ?_
      refine va_put (D := (dC, dI)) (ci := 3) (v := .int a) (ty := .int) (C := R_Names) (T := F_Names) (N := 9) hx hb htt iw_Names t_Names t_Names_ok n_Names hown hK hP hD hS 0 rfl rfl 6 (by decide) (htt _ lk_Names_31) (fun _ h9 => h9) rfl (by decide +kernel) rfl rfl (Nat.le_of_ble_eq_true rfl) d_Names_dropLocals_14 (fun H locs hP hD hS => ?_)
      have hP : va_P (dC, dI) classes [(h0, .inr (3, [.ref n_heap, .ref n_globalNames, .ref n_globalValues, .int n_globals, .ref n_localNames, .ref n_localValues, .int a, .ref n_keptValues, .int n_keptGlobals]))] H := hP
      have hD : va_D A [(h0, .inr (3, [.ref n_heap, .ref n_globalNames, .ref n_globalValues, .int n_globals, .ref n_localNames, .ref n_localValues, .int a, .ref n_keptValues, .int n_keptGlobals]))] := hD
      have hP9 := hP.sub (ws' := [(h0, .inr (3, [.ref n_heap, .ref n_globalNames, .ref n_globalValues, .int n_globals, .ref n_localNames, .ref n_localValues, .int a, .ref n_keptValues, .int n_keptGlobals]))]) [0] rfl
      have hD9 := hD.sub (ws' := [(h0, .inr (3, [.ref n_heap, .ref n_globalNames, .ref n_globalValues, .int n_globals, .ref n_localNames, .ref n_localValues, .int a, .ref n_keptValues, .int n_keptGlobals]))]) [0] (by decide) rfl
      have eW : [(h0, .inr (3, [.ref n_heap, .ref n_globalNames, .ref n_globalValues, .int n_globals, .ref n_localNames, .ref n_localValues, .int a, .ref n_keptValues, .int n_keptGlobals]))] = ([(h0, .inr (3, [.ref n_heap, .ref n_globalNames, .ref n_globalValues, .int n_globals, .ref n_localNames, .ref n_localValues, .int (m_Names_dropLocals_w0_6 n_locals a), .ref n_keptValues, .int n_keptGlobals]))] : va_W) := by unfold m_Names_dropLocals_w0_6; simp only [if_neg c_1, if_neg c_2]
      rw [eW] at hP9 hD9
      exact W.vret hx hb hr (fun t9 ht hW => ⟨⟨(), rfl, trivial, by rw [ht]; exact hP9, va_K.moved hW.alike hK, hD9⟩, hS.F ht⟩) hS.2.2 d_Names_dropLocals_17

def m_Names_globalName_r (n_globals : Int32) (n_globalNames_v : Nat → Int32) (k : Int32) : Int32 := if k < ((0 : Int32)) then (-2147483648) else if n_globals ≤ k then (-2147483648) else n_globalNames_v k.toNatClampNeg
set_option maxHeartbeats 4000000 in
set_option maxRecDepth 100000 in
theorem c_Names_globalName (l : Launch) (dC : Nat → ClassId) (dI : Nat → Nat → Nat) (sz : Nat) (h0 : Nat) (n_heap : Nat) (n_globalNames : Nat) (n_globalValues : Nat) (n_globals : Int32) (n_localNames : Nat) (n_localValues : Nat) (n_locals : Int32) (n_keptValues : Nat) (n_keptGlobals : Int32) (n_globalNames_v : Nat → Int32) (cI : ClassId) (k : Int32) (hgl : n_globals ≤ 64) : Met l y_Names_globalName w_Names_globalName ({ frames := 0, cells := 0, slots := 0, locals := 0 }) (va_Pc [.ref h0, .int k] (fun U => U.heap.size = sz ∧ va_P (dC, dI) classes [(h0, .inr (3, [.ref n_heap, .ref n_globalNames, .ref n_globalValues, .int n_globals, .ref n_localNames, .ref n_localValues, .int n_locals, .ref n_keptValues, .int n_keptGlobals])), (n_globalNames, .inl (cI, 64, .inl n_globalNames_v))] U.heap ∧ va_K (dC, dI) classes [(cI, .int)] U ∧ va_D (fun _ => True) [(h0, .inr (3, [.ref n_heap, .ref n_globalNames, .ref n_globalValues, .int n_globals, .ref n_localNames, .ref n_localValues, .int n_locals, .ref n_keptValues, .int n_keptGlobals])), (n_globalNames, .inl (cI, 64, .inl n_globalNames_v))])) (va_Qi (fun (r : Int32) (_ : Unit) => r = m_Names_globalName_r n_globals n_globalNames_v k) (fun (_ : Unit) t => va_P (dC, dI) classes [(h0, .inr (3, [.ref n_heap, .ref n_globalNames, .ref n_globalValues, .int n_globals, .ref n_localNames, .ref n_localValues, .int n_locals, .ref n_keptValues, .int n_keptGlobals])), (n_globalNames, .inl (cI, 64, .inl n_globalNames_v))] t.heap ∧ va_K (dC, dI) classes [(cI, .int)] t ∧ va_D (va_A [(h0, .inr (3, [.ref n_heap, .ref n_globalNames, .ref n_globalValues, .int n_globals, .ref n_localNames, .ref n_localValues, .int n_locals, .ref n_keptValues, .int n_keptGlobals])), (n_globalNames, .inl (cI, 64, .inl n_globalNames_v))] sz) [(h0, .inr (3, [.ref n_heap, .ref n_globalNames, .ref n_globalValues, .int n_globals, .ref n_localNames, .ref n_localValues, .int n_locals, .ref n_keptValues, .int n_keptGlobals])), (n_globalNames, .inl (cI, 64, .inl n_globalNames_v))]) (va_A [(h0, .inr (3, [.ref n_heap, .ref n_globalNames, .ref n_globalValues, .int n_globals, .ref n_localNames, .ref n_localValues, .int n_locals, .ref n_keptValues, .int n_keptGlobals])), (n_globalNames, .inl (cI, 64, .inl n_globalNames_v))] sz)) 0 0 (va_A [(h0, .inr (3, [.ref n_heap, .ref n_globalNames, .ref n_globalValues, .int n_globals, .ref n_localNames, .ref n_localValues, .int n_locals, .ref n_keptValues, .int n_keptGlobals])), (n_globalNames, .inl (cI, 64, .inl n_globalNames_v))] sz) := by
  refine Met.ofW (cc := b_Names_globalName) (maxL := 2) (ret := (some .int)) (by decide) rfl ?_
  intro p e s m args below meth c s₁ B hml hv
  obtain ⟨rfl, hsz, hP, hK, hD0⟩ := hv
  have hx := B.exec
  have hb := B.bytes
  have hr := B.returns
  have hts := atoms_spec (ws := w_Names_globalName) B.pre
  have htt : ∀ w ∈ tw_T, w.before _ s = true := fun w h => hts w (List.mem_cons_of_mem _ h)
  have hown : s.vm.findClass R_Names = some m.cls := findClass_of_methodNamed B.named
  have hlocks := B.notSynchronized
  subst hsz
  have hD := hD0.self (sz := s.heap.size)
  generalize hAe : va_A [(h0, .inr (3, [.ref n_heap, .ref n_globalNames, .ref n_globalValues, .int n_globals, .ref n_localNames, .ref n_localValues, .int n_locals, .ref n_keptValues, .int n_keptGlobals])), (n_globalNames, .inl (cI, 64, .inl n_globalNames_v))] s.heap.size = A at hD ⊢
  have hA : ∀ q : Nat, s.heap.size ≤ q → A q := fun q h => by rw [← hAe]; exact Or.inr h
  have hS : va_S A s.heap s.heap [] := va_S.rf
  have hP : va_P (dC, dI) classes [(h0, .inr (3, [.ref n_heap, .ref n_globalNames, .ref n_globalValues, .int n_globals, .ref n_localNames, .ref n_localValues, .int n_locals, .ref n_keptValues, .int n_keptGlobals])), (n_globalNames, .inl (cI, 64, .inl n_globalNames_v))] s.heap := hP
  have hl := lv_entry ([.ref h0, .int k]) (n := 2) (Nat.le_of_ble_eq_true rfl)
  rw [lg_entry_eq]
  generalize (lg_sl ([.ref h0, .int k]) ++ List.replicate (2 - (lg_sl ([.ref h0, .int k])).length) Slot.unset).toArray = ls at hl ⊢
  have hl : lv_has ls 2 [(0, .ref h0), (1, .int k)] := hl
  refine lv_iload_n hx hb d_Names_globalName_0 rfl (lv_at hl 1 rfl) ?_
  refine lv_if_lt (tgt := 21) hx hb d_Names_globalName_1 (by decide) (fun c_1 => ?_) (fun c_1 => ?_)
  · refine lv_ldc (v := (-2147483648)) hx hb hown (htt _ lk_Names_48) d_Names_globalName_21 ?_
    have hP9 := hP.sub (ws' := [(h0, .inr (3, [.ref n_heap, .ref n_globalNames, .ref n_globalValues, .int n_globals, .ref n_localNames, .ref n_localValues, .int n_locals, .ref n_keptValues, .int n_keptGlobals])), (n_globalNames, .inl (cI, 64, .inl n_globalNames_v))]) [0, 1] rfl
    have hD9 := hD.sub (ws' := [(h0, .inr (3, [.ref n_heap, .ref n_globalNames, .ref n_globalValues, .int n_globals, .ref n_localNames, .ref n_localValues, .int n_locals, .ref n_keptValues, .int n_keptGlobals])), (n_globalNames, .inl (cI, 64, .inl n_globalNames_v))]) [0, 1] (by decide) rfl
    exact W.iret (v := (-2147483648)) hx hb hr (fun t9 ht hW => ⟨⟨(-2147483648), (), rfl, by unfold m_Names_globalName_r; simp only [if_pos c_1], by rw [ht]; exact hP9, va_K.moved hW.alike hK, hD9⟩, hS.F ht⟩) hS.2.2 d_Names_globalName_23
  · refine lv_iload_n hx hb d_Names_globalName_4 rfl (lv_at hl 1 rfl) ?_
    refine lv_aload_n hx hb d_Names_globalName_5 rfl (lv_at hl 0 rfl) ?_
    refine va_get (D := (dC, dI)) (ci := 3) (v := .int n_globals) (C := R_Names) (T := F_Names) (N := 9) hx hb htt iw_Names hown hK hP 0 rfl rfl 3 (by decide) (htt _ lk_Names_41) (fun _ h9 => h9) rfl d_Names_globalName_6 ?_
    refine lv_icmp_ge (tgt := 21) hx hb d_Names_globalName_9 (by decide) (fun c_2 => ?_) (fun c_2 => ?_)
    · refine lv_ldc (v := (-2147483648)) hx hb hown (htt _ lk_Names_48) d_Names_globalName_21 ?_
      have hP9 := hP.sub (ws' := [(h0, .inr (3, [.ref n_heap, .ref n_globalNames, .ref n_globalValues, .int n_globals, .ref n_localNames, .ref n_localValues, .int n_locals, .ref n_keptValues, .int n_keptGlobals])), (n_globalNames, .inl (cI, 64, .inl n_globalNames_v))]) [0, 1] rfl
      have hD9 := hD.sub (ws' := [(h0, .inr (3, [.ref n_heap, .ref n_globalNames, .ref n_globalValues, .int n_globals, .ref n_localNames, .ref n_localValues, .int n_locals, .ref n_keptValues, .int n_keptGlobals])), (n_globalNames, .inl (cI, 64, .inl n_globalNames_v))]) [0, 1] (by decide) rfl
      exact W.iret (v := (-2147483648)) hx hb hr (fun t9 ht hW => ⟨⟨(-2147483648), (), rfl, by unfold m_Names_globalName_r; simp only [if_neg c_1, if_pos c_2], by rw [ht]; exact hP9, va_K.moved hW.alike hK, hD9⟩, hS.F ht⟩) hS.2.2 d_Names_globalName_23
    · refine lv_aload_n hx hb d_Names_globalName_12 rfl (lv_at hl 0 rfl) ?_
      refine va_get (D := (dC, dI)) (ci := 3) (v := .ref n_globalNames) (C := R_Names) (T := F_Names) (N := 9) hx hb htt iw_Names hown hK hP 0 rfl rfl 1 (by decide) (htt _ lk_Names_11) (fun _ h9 => h9) rfl d_Names_globalName_13 ?_
      refine lv_iload_n hx hb d_Names_globalName_16 rfl (lv_at hl 1 rfl) ?_
      have h_3 : vp_in k 64 := by rw [vp_in_iff]; simp only [Int32.lt_iff_toInt_lt, Int32.le_iff_toInt_le, Int32.reduceToInt] at c_1 c_2 hgl ⊢; omega
      refine va_iald hx hb hK hP 1 0 rfl rfl h_3 d_Names_globalName_17 ?_
      refine lv_goto (tgt := 23) hx hb d_Names_globalName_18 (by decide) ?_
      have hP9 := hP.sub (ws' := [(h0, .inr (3, [.ref n_heap, .ref n_globalNames, .ref n_globalValues, .int n_globals, .ref n_localNames, .ref n_localValues, .int n_locals, .ref n_keptValues, .int n_keptGlobals])), (n_globalNames, .inl (cI, 64, .inl n_globalNames_v))]) [0, 1] rfl
      have hD9 := hD.sub (ws' := [(h0, .inr (3, [.ref n_heap, .ref n_globalNames, .ref n_globalValues, .int n_globals, .ref n_localNames, .ref n_localValues, .int n_locals, .ref n_keptValues, .int n_keptGlobals])), (n_globalNames, .inl (cI, 64, .inl n_globalNames_v))]) [0, 1] (by decide) rfl
      exact W.iret (v := n_globalNames_v k.toNatClampNeg) hx hb hr (fun t9 ht hW => ⟨⟨n_globalNames_v k.toNatClampNeg, (), rfl, by unfold m_Names_globalName_r; simp only [if_neg c_1, if_neg c_2], by rw [ht]; exact hP9, va_K.moved hW.alike hK, hD9⟩, hS.F ht⟩) hS.2.2 d_Names_globalName_23

def m_Names_globalValue_r (n_globals : Int32) (n_globalValues_v : Nat → Int32) (k : Int32) : Int32 := if k < ((0 : Int32)) then (-2147483648) else if n_globals ≤ k then (-2147483648) else n_globalValues_v k.toNatClampNeg
set_option maxHeartbeats 4000000 in
set_option maxRecDepth 100000 in
theorem c_Names_globalValue (l : Launch) (dC : Nat → ClassId) (dI : Nat → Nat → Nat) (sz : Nat) (h0 : Nat) (n_heap : Nat) (n_globalNames : Nat) (n_globalValues : Nat) (n_globals : Int32) (n_localNames : Nat) (n_localValues : Nat) (n_locals : Int32) (n_keptValues : Nat) (n_keptGlobals : Int32) (n_globalValues_v : Nat → Int32) (cI : ClassId) (k : Int32) (hgl : n_globals ≤ 64) : Met l y_Names_globalValue w_Names_globalValue ({ frames := 0, cells := 0, slots := 0, locals := 0 }) (va_Pc [.ref h0, .int k] (fun U => U.heap.size = sz ∧ va_P (dC, dI) classes [(h0, .inr (3, [.ref n_heap, .ref n_globalNames, .ref n_globalValues, .int n_globals, .ref n_localNames, .ref n_localValues, .int n_locals, .ref n_keptValues, .int n_keptGlobals])), (n_globalValues, .inl (cI, 64, .inl n_globalValues_v))] U.heap ∧ va_K (dC, dI) classes [(cI, .int)] U ∧ va_D (fun _ => True) [(h0, .inr (3, [.ref n_heap, .ref n_globalNames, .ref n_globalValues, .int n_globals, .ref n_localNames, .ref n_localValues, .int n_locals, .ref n_keptValues, .int n_keptGlobals])), (n_globalValues, .inl (cI, 64, .inl n_globalValues_v))])) (va_Qi (fun (r : Int32) (_ : Unit) => r = m_Names_globalValue_r n_globals n_globalValues_v k) (fun (_ : Unit) t => va_P (dC, dI) classes [(h0, .inr (3, [.ref n_heap, .ref n_globalNames, .ref n_globalValues, .int n_globals, .ref n_localNames, .ref n_localValues, .int n_locals, .ref n_keptValues, .int n_keptGlobals])), (n_globalValues, .inl (cI, 64, .inl n_globalValues_v))] t.heap ∧ va_K (dC, dI) classes [(cI, .int)] t ∧ va_D (va_A [(h0, .inr (3, [.ref n_heap, .ref n_globalNames, .ref n_globalValues, .int n_globals, .ref n_localNames, .ref n_localValues, .int n_locals, .ref n_keptValues, .int n_keptGlobals])), (n_globalValues, .inl (cI, 64, .inl n_globalValues_v))] sz) [(h0, .inr (3, [.ref n_heap, .ref n_globalNames, .ref n_globalValues, .int n_globals, .ref n_localNames, .ref n_localValues, .int n_locals, .ref n_keptValues, .int n_keptGlobals])), (n_globalValues, .inl (cI, 64, .inl n_globalValues_v))]) (va_A [(h0, .inr (3, [.ref n_heap, .ref n_globalNames, .ref n_globalValues, .int n_globals, .ref n_localNames, .ref n_localValues, .int n_locals, .ref n_keptValues, .int n_keptGlobals])), (n_globalValues, .inl (cI, 64, .inl n_globalValues_v))] sz)) 0 0 (va_A [(h0, .inr (3, [.ref n_heap, .ref n_globalNames, .ref n_globalValues, .int n_globals, .ref n_localNames, .ref n_localValues, .int n_locals, .ref n_keptValues, .int n_keptGlobals])), (n_globalValues, .inl (cI, 64, .inl n_globalValues_v))] sz) := by
  refine Met.ofW (cc := b_Names_globalValue) (maxL := 2) (ret := (some .int)) (by decide) rfl ?_
  intro p e s m args below meth c s₁ B hml hv
  obtain ⟨rfl, hsz, hP, hK, hD0⟩ := hv
  have hx := B.exec
  have hb := B.bytes
  have hr := B.returns
  have hts := atoms_spec (ws := w_Names_globalValue) B.pre
  have htt : ∀ w ∈ tw_T, w.before _ s = true := fun w h => hts w (List.mem_cons_of_mem _ h)
  have hown : s.vm.findClass R_Names = some m.cls := findClass_of_methodNamed B.named
  have hlocks := B.notSynchronized
  subst hsz
  have hD := hD0.self (sz := s.heap.size)
  generalize hAe : va_A [(h0, .inr (3, [.ref n_heap, .ref n_globalNames, .ref n_globalValues, .int n_globals, .ref n_localNames, .ref n_localValues, .int n_locals, .ref n_keptValues, .int n_keptGlobals])), (n_globalValues, .inl (cI, 64, .inl n_globalValues_v))] s.heap.size = A at hD ⊢
  have hA : ∀ q : Nat, s.heap.size ≤ q → A q := fun q h => by rw [← hAe]; exact Or.inr h
  have hS : va_S A s.heap s.heap [] := va_S.rf
  have hP : va_P (dC, dI) classes [(h0, .inr (3, [.ref n_heap, .ref n_globalNames, .ref n_globalValues, .int n_globals, .ref n_localNames, .ref n_localValues, .int n_locals, .ref n_keptValues, .int n_keptGlobals])), (n_globalValues, .inl (cI, 64, .inl n_globalValues_v))] s.heap := hP
  have hl := lv_entry ([.ref h0, .int k]) (n := 2) (Nat.le_of_ble_eq_true rfl)
  rw [lg_entry_eq]
  generalize (lg_sl ([.ref h0, .int k]) ++ List.replicate (2 - (lg_sl ([.ref h0, .int k])).length) Slot.unset).toArray = ls at hl ⊢
  have hl : lv_has ls 2 [(0, .ref h0), (1, .int k)] := hl
  refine lv_iload_n hx hb d_Names_globalValue_0 rfl (lv_at hl 1 rfl) ?_
  refine lv_if_lt (tgt := 21) hx hb d_Names_globalValue_1 (by decide) (fun c_1 => ?_) (fun c_1 => ?_)
  · refine lv_ldc (v := (-2147483648)) hx hb hown (htt _ lk_Names_48) d_Names_globalValue_21 ?_
    have hP9 := hP.sub (ws' := [(h0, .inr (3, [.ref n_heap, .ref n_globalNames, .ref n_globalValues, .int n_globals, .ref n_localNames, .ref n_localValues, .int n_locals, .ref n_keptValues, .int n_keptGlobals])), (n_globalValues, .inl (cI, 64, .inl n_globalValues_v))]) [0, 1] rfl
    have hD9 := hD.sub (ws' := [(h0, .inr (3, [.ref n_heap, .ref n_globalNames, .ref n_globalValues, .int n_globals, .ref n_localNames, .ref n_localValues, .int n_locals, .ref n_keptValues, .int n_keptGlobals])), (n_globalValues, .inl (cI, 64, .inl n_globalValues_v))]) [0, 1] (by decide) rfl
    exact W.iret (v := (-2147483648)) hx hb hr (fun t9 ht hW => ⟨⟨(-2147483648), (), rfl, by unfold m_Names_globalValue_r; simp only [if_pos c_1], by rw [ht]; exact hP9, va_K.moved hW.alike hK, hD9⟩, hS.F ht⟩) hS.2.2 d_Names_globalValue_23
  · refine lv_iload_n hx hb d_Names_globalValue_4 rfl (lv_at hl 1 rfl) ?_
    refine lv_aload_n hx hb d_Names_globalValue_5 rfl (lv_at hl 0 rfl) ?_
    refine va_get (D := (dC, dI)) (ci := 3) (v := .int n_globals) (C := R_Names) (T := F_Names) (N := 9) hx hb htt iw_Names hown hK hP 0 rfl rfl 3 (by decide) (htt _ lk_Names_41) (fun _ h9 => h9) rfl d_Names_globalValue_6 ?_
    refine lv_icmp_ge (tgt := 21) hx hb d_Names_globalValue_9 (by decide) (fun c_2 => ?_) (fun c_2 => ?_)
    · refine lv_ldc (v := (-2147483648)) hx hb hown (htt _ lk_Names_48) d_Names_globalValue_21 ?_
      have hP9 := hP.sub (ws' := [(h0, .inr (3, [.ref n_heap, .ref n_globalNames, .ref n_globalValues, .int n_globals, .ref n_localNames, .ref n_localValues, .int n_locals, .ref n_keptValues, .int n_keptGlobals])), (n_globalValues, .inl (cI, 64, .inl n_globalValues_v))]) [0, 1] rfl
      have hD9 := hD.sub (ws' := [(h0, .inr (3, [.ref n_heap, .ref n_globalNames, .ref n_globalValues, .int n_globals, .ref n_localNames, .ref n_localValues, .int n_locals, .ref n_keptValues, .int n_keptGlobals])), (n_globalValues, .inl (cI, 64, .inl n_globalValues_v))]) [0, 1] (by decide) rfl
      exact W.iret (v := (-2147483648)) hx hb hr (fun t9 ht hW => ⟨⟨(-2147483648), (), rfl, by unfold m_Names_globalValue_r; simp only [if_neg c_1, if_pos c_2], by rw [ht]; exact hP9, va_K.moved hW.alike hK, hD9⟩, hS.F ht⟩) hS.2.2 d_Names_globalValue_23
    · refine lv_aload_n hx hb d_Names_globalValue_12 rfl (lv_at hl 0 rfl) ?_
      refine va_get (D := (dC, dI)) (ci := 3) (v := .ref n_globalValues) (C := R_Names) (T := F_Names) (N := 9) hx hb htt iw_Names hown hK hP 0 rfl rfl 2 (by decide) (htt _ lk_Names_15) (fun _ h9 => h9) rfl d_Names_globalValue_13 ?_
      refine lv_iload_n hx hb d_Names_globalValue_16 rfl (lv_at hl 1 rfl) ?_
      have h_3 : vp_in k 64 := by rw [vp_in_iff]; simp only [Int32.lt_iff_toInt_lt, Int32.le_iff_toInt_le, Int32.reduceToInt] at c_1 c_2 hgl ⊢; omega
      refine va_iald hx hb hK hP 1 0 rfl rfl h_3 d_Names_globalValue_17 ?_
      refine lv_goto (tgt := 23) hx hb d_Names_globalValue_18 (by decide) ?_
      have hP9 := hP.sub (ws' := [(h0, .inr (3, [.ref n_heap, .ref n_globalNames, .ref n_globalValues, .int n_globals, .ref n_localNames, .ref n_localValues, .int n_locals, .ref n_keptValues, .int n_keptGlobals])), (n_globalValues, .inl (cI, 64, .inl n_globalValues_v))]) [0, 1] rfl
      have hD9 := hD.sub (ws' := [(h0, .inr (3, [.ref n_heap, .ref n_globalNames, .ref n_globalValues, .int n_globals, .ref n_localNames, .ref n_localValues, .int n_locals, .ref n_keptValues, .int n_keptGlobals])), (n_globalValues, .inl (cI, 64, .inl n_globalValues_v))]) [0, 1] (by decide) rfl
      exact W.iret (v := n_globalValues_v k.toNatClampNeg) hx hb hr (fun t9 ht hW => ⟨⟨n_globalValues_v k.toNatClampNeg, (), rfl, by unfold m_Names_globalValue_r; simp only [if_neg c_1, if_neg c_2], by rw [ht]; exact hP9, va_K.moved hW.alike hK, hD9⟩, hS.F ht⟩) hS.2.2 d_Names_globalValue_23

def m_Names_keep_w0_8 (n_globals : Int32) : Int32 := n_globals
def m_Names_keep_w2 (n_globalValues_v : Nat → Int32) (n_keptValues_v : Nat → Int32) : Nat → Int32 := va_cpy n_globalValues_v n_keptValues_v (0 : Int32).toNatClampNeg (0 : Int32).toNatClampNeg (64 : Int32).toNatClampNeg
set_option maxHeartbeats 4000000 in
set_option maxRecDepth 100000 in
theorem c_Names_keep (l : Launch) (dC : Nat → ClassId) (dI : Nat → Nat → Nat) (sz : Nat) (h0 : Nat) (n_heap : Nat) (n_globalNames : Nat) (n_globalValues : Nat) (n_globals : Int32) (n_localNames : Nat) (n_localValues : Nat) (n_locals : Int32) (n_keptValues : Nat) (n_keptGlobals : Int32) (n_globalValues_v : Nat → Int32) (n_keptValues_v : Nat → Int32) (cI : ClassId)  : Met l y_Names_keep w_Names_keep ({ frames := 1, cells := 0, slots := 0, locals := 40 }) (va_Pc [.ref h0] (fun U => U.heap.size = sz ∧ va_P (dC, dI) classes [(h0, .inr (3, [.ref n_heap, .ref n_globalNames, .ref n_globalValues, .int n_globals, .ref n_localNames, .ref n_localValues, .int n_locals, .ref n_keptValues, .int n_keptGlobals])), (n_globalValues, .inl (cI, 64, .inl n_globalValues_v)), (n_keptValues, .inl (cI, 64, .inl n_keptValues_v))] U.heap ∧ va_K (dC, dI) classes [(cI, .int)] U ∧ va_D (fun _ => True) [(h0, .inr (3, [.ref n_heap, .ref n_globalNames, .ref n_globalValues, .int n_globals, .ref n_localNames, .ref n_localValues, .int n_locals, .ref n_keptValues, .int n_keptGlobals])), (n_globalValues, .inl (cI, 64, .inl n_globalValues_v)), (n_keptValues, .inl (cI, 64, .inl n_keptValues_v))])) (va_Qv (fun (_ : Unit) => True) (fun (_ : Unit) t => va_P (dC, dI) classes [(h0, .inr (3, [.ref n_heap, .ref n_globalNames, .ref n_globalValues, .int n_globals, .ref n_localNames, .ref n_localValues, .int n_locals, .ref n_keptValues, .int (m_Names_keep_w0_8 n_globals)])), (n_globalValues, .inl (cI, 64, .inl n_globalValues_v)), (n_keptValues, .inl (cI, 64, .inl (m_Names_keep_w2 n_globalValues_v n_keptValues_v)))] t.heap ∧ va_K (dC, dI) classes [(cI, .int)] t ∧ va_D (va_A [(h0, .inr (3, [.ref n_heap, .ref n_globalNames, .ref n_globalValues, .int n_globals, .ref n_localNames, .ref n_localValues, .int n_locals, .ref n_keptValues, .int n_keptGlobals])), (n_globalValues, .inl (cI, 64, .inl n_globalValues_v)), (n_keptValues, .inl (cI, 64, .inl n_keptValues_v))] sz) [(h0, .inr (3, [.ref n_heap, .ref n_globalNames, .ref n_globalValues, .int n_globals, .ref n_localNames, .ref n_localValues, .int n_locals, .ref n_keptValues, .int (m_Names_keep_w0_8 n_globals)])), (n_globalValues, .inl (cI, 64, .inl n_globalValues_v)), (n_keptValues, .inl (cI, 64, .inl (m_Names_keep_w2 n_globalValues_v n_keptValues_v)))]) (va_A [(h0, .inr (3, [.ref n_heap, .ref n_globalNames, .ref n_globalValues, .int n_globals, .ref n_localNames, .ref n_localValues, .int n_locals, .ref n_keptValues, .int n_keptGlobals])), (n_globalValues, .inl (cI, 64, .inl n_globalValues_v)), (n_keptValues, .inl (cI, 64, .inl n_keptValues_v))] sz)) 0 0 (va_A [(h0, .inr (3, [.ref n_heap, .ref n_globalNames, .ref n_globalValues, .int n_globals, .ref n_localNames, .ref n_localValues, .int n_locals, .ref n_keptValues, .int n_keptGlobals])), (n_globalValues, .inl (cI, 64, .inl n_globalValues_v)), (n_keptValues, .inl (cI, 64, .inl n_keptValues_v))] sz) := by
  refine Met.ofW (cc := b_Names_keep) (maxL := 1) (ret := none) (by decide) rfl ?_
  intro p e s m args below meth c s₁ B hml hv
  obtain ⟨rfl, hsz, hP, hK, hD0⟩ := hv
  have hx := B.exec
  have hb := B.bytes
  have hr := B.returns
  have hts := atoms_spec (ws := w_Names_keep) B.pre
  have htt : ∀ w ∈ tw_T, w.before _ s = true := fun w h => hts w (List.mem_cons_of_mem _ h)
  have hown : s.vm.findClass R_Names = some m.cls := findClass_of_methodNamed B.named
  have hlocks := B.notSynchronized
  subst hsz
  have hD := hD0.self (sz := s.heap.size)
  generalize hAe : va_A [(h0, .inr (3, [.ref n_heap, .ref n_globalNames, .ref n_globalValues, .int n_globals, .ref n_localNames, .ref n_localValues, .int n_locals, .ref n_keptValues, .int n_keptGlobals])), (n_globalValues, .inl (cI, 64, .inl n_globalValues_v)), (n_keptValues, .inl (cI, 64, .inl n_keptValues_v))] s.heap.size = A at hD ⊢
  have hA : ∀ q : Nat, s.heap.size ≤ q → A q := fun q h => by rw [← hAe]; exact Or.inr h
  have hS : va_S A s.heap s.heap [] := va_S.rf
  have hP : va_P (dC, dI) classes [(h0, .inr (3, [.ref n_heap, .ref n_globalNames, .ref n_globalValues, .int n_globals, .ref n_localNames, .ref n_localValues, .int n_locals, .ref n_keptValues, .int n_keptGlobals])), (n_globalValues, .inl (cI, 64, .inl n_globalValues_v)), (n_keptValues, .inl (cI, 64, .inl n_keptValues_v))] s.heap := hP
  have hl := lv_entry ([.ref h0]) (n := 1) (Nat.le_of_ble_eq_true rfl)
  rw [lg_entry_eq]
  generalize (lg_sl ([.ref h0]) ++ List.replicate (1 - (lg_sl ([.ref h0])).length) Slot.unset).toArray = ls at hl ⊢
  have hl : lv_has ls 1 [(0, .ref h0)] := hl
  refine lv_aload_n hx hb d_Names_keep_0 rfl (lv_at hl 0 rfl) ?_
  refine lv_aload_n hx hb d_Names_keep_1 rfl (lv_at hl 0 rfl) ?_
  refine va_get (D := (dC, dI)) (ci := 3) (v := .int n_globals) (C := R_Names) (T := F_Names) (N := 9) hx hb htt iw_Names hown hK hP 0 rfl rfl 3 (by decide) (htt _ lk_Names_41) (fun _ h9 => h9) rfl d_Names_keep_2 ?_
  refine va_put (D := (dC, dI)) (ci := 3) (v := .int n_globals) (ty := .int) (C := R_Names) (T := F_Names) (N := 9) hx hb htt iw_Names t_Names t_Names_ok n_Names hown hK hP hD hS 0 rfl rfl 8 (by decide) (htt _ lk_Names_66) (fun _ h9 => h9) rfl (by decide +kernel) rfl rfl (Nat.le_of_ble_eq_true rfl) d_Names_keep_5 (fun H locs hP hD hS => ?_)
  have hP : va_P (dC, dI) classes [(h0, .inr (3, [.ref n_heap, .ref n_globalNames, .ref n_globalValues, .int n_globals, .ref n_localNames, .ref n_localValues, .int n_locals, .ref n_keptValues, .int n_globals])), (n_globalValues, .inl (cI, 64, .inl n_globalValues_v)), (n_keptValues, .inl (cI, 64, .inl n_keptValues_v))] H := hP
  have hD : va_D A [(h0, .inr (3, [.ref n_heap, .ref n_globalNames, .ref n_globalValues, .int n_globals, .ref n_localNames, .ref n_localValues, .int n_locals, .ref n_keptValues, .int n_globals])), (n_globalValues, .inl (cI, 64, .inl n_globalValues_v)), (n_keptValues, .inl (cI, 64, .inl n_keptValues_v))] := hD
  refine lv_aload_n hx hb d_Names_keep_8 rfl (lv_at hl 0 rfl) ?_
  refine va_get (D := (dC, dI)) (ci := 3) (v := .ref n_globalValues) (C := R_Names) (T := F_Names) (N := 9) hx hb htt iw_Names hown hK hP 0 rfl rfl 2 (by decide) (htt _ lk_Names_15) (fun _ h9 => h9) rfl d_Names_keep_9 ?_
  refine lv_iconst (v := 0) hx hb d_Names_keep_12 (by decide) ?_
  refine lv_aload_n hx hb d_Names_keep_13 rfl (lv_at hl 0 rfl) ?_
  refine va_get (D := (dC, dI)) (ci := 3) (v := .ref n_keptValues) (C := R_Names) (T := F_Names) (N := 9) hx hb htt iw_Names hown hK hP 0 rfl rfl 7 (by decide) (htt _ lk_Names_24) (fun _ h9 => h9) rfl d_Names_keep_14 ?_
  refine lv_iconst (v := 0) hx hb d_Names_keep_17 (by decide) ?_
  refine lv_bipush (v := 64) hx hb d_Names_keep_18 (by decide) ?_
  refine va_copyi hx hb (by rw [hml]; exact hl.1.symm) hown (htt _ lk_Names_69) (htt _ na_arraycopy) (htt _ st_arraycopy) (htt _ ini_System) hK hP hD hS 1 2 0 0 (ty := .int) (sp := 0) (dp := 0) (n := 64) rfl rfl rfl rfl rfl (by decide) (by decide) (by decide) (by decide) (by decide) (fun _ _ => rfl) (Nat.le_of_ble_eq_true rfl) (Nat.le_of_ble_eq_true rfl) d_Names_keep_20 (fun H locs hP hD hS => ?_)
  have hP : va_P (dC, dI) classes [(h0, .inr (3, [.ref n_heap, .ref n_globalNames, .ref n_globalValues, .int n_globals, .ref n_localNames, .ref n_localValues, .int n_locals, .ref n_keptValues, .int n_globals])), (n_globalValues, .inl (cI, 64, .inl n_globalValues_v)), (n_keptValues, .inl (cI, 64, .inl (va_cpy n_globalValues_v n_keptValues_v (0 : Int32).toNatClampNeg (0 : Int32).toNatClampNeg (64 : Int32).toNatClampNeg)))] H := hP
  have hD : va_D A [(h0, .inr (3, [.ref n_heap, .ref n_globalNames, .ref n_globalValues, .int n_globals, .ref n_localNames, .ref n_localValues, .int n_locals, .ref n_keptValues, .int n_globals])), (n_globalValues, .inl (cI, 64, .inl n_globalValues_v)), (n_keptValues, .inl (cI, 64, .inl (va_cpy n_globalValues_v n_keptValues_v (0 : Int32).toNatClampNeg (0 : Int32).toNatClampNeg (64 : Int32).toNatClampNeg)))] := hD
  have hP9 := hP.sub (ws' := [(h0, .inr (3, [.ref n_heap, .ref n_globalNames, .ref n_globalValues, .int n_globals, .ref n_localNames, .ref n_localValues, .int n_locals, .ref n_keptValues, .int n_globals])), (n_globalValues, .inl (cI, 64, .inl n_globalValues_v)), (n_keptValues, .inl (cI, 64, .inl (va_cpy n_globalValues_v n_keptValues_v (0 : Int32).toNatClampNeg (0 : Int32).toNatClampNeg (64 : Int32).toNatClampNeg)))]) [0, 1, 2] rfl
  have hD9 := hD.sub (ws' := [(h0, .inr (3, [.ref n_heap, .ref n_globalNames, .ref n_globalValues, .int n_globals, .ref n_localNames, .ref n_localValues, .int n_locals, .ref n_keptValues, .int n_globals])), (n_globalValues, .inl (cI, 64, .inl n_globalValues_v)), (n_keptValues, .inl (cI, 64, .inl (va_cpy n_globalValues_v n_keptValues_v (0 : Int32).toNatClampNeg (0 : Int32).toNatClampNeg (64 : Int32).toNatClampNeg)))]) [0, 1, 2] (by decide) rfl
  have eW : [(h0, .inr (3, [.ref n_heap, .ref n_globalNames, .ref n_globalValues, .int n_globals, .ref n_localNames, .ref n_localValues, .int n_locals, .ref n_keptValues, .int n_globals])), (n_globalValues, .inl (cI, 64, .inl n_globalValues_v)), (n_keptValues, .inl (cI, 64, .inl (va_cpy n_globalValues_v n_keptValues_v (0 : Int32).toNatClampNeg (0 : Int32).toNatClampNeg (64 : Int32).toNatClampNeg)))] = ([(h0, .inr (3, [.ref n_heap, .ref n_globalNames, .ref n_globalValues, .int n_globals, .ref n_localNames, .ref n_localValues, .int n_locals, .ref n_keptValues, .int (m_Names_keep_w0_8 n_globals)])), (n_globalValues, .inl (cI, 64, .inl n_globalValues_v)), (n_keptValues, .inl (cI, 64, .inl (m_Names_keep_w2 n_globalValues_v n_keptValues_v)))] : va_W) := by unfold m_Names_keep_w0_8 m_Names_keep_w2; rfl
  rw [eW] at hP9 hD9
  exact W.vret hx hb hr (fun t9 ht hW => ⟨⟨(), rfl, trivial, by rw [ht]; exact hP9, va_K.moved hW.alike hK, hD9⟩, hS.F ht⟩) hS.2.2 d_Names_keep_23

def m_Names_takeBack_w0_3 (n_keptGlobals : Int32) : Int32 := n_keptGlobals
def m_Names_takeBack_w1 (n_globalValues_v : Nat → Int32) (n_keptValues_v : Nat → Int32) : Nat → Int32 := va_cpy n_keptValues_v n_globalValues_v (0 : Int32).toNatClampNeg (0 : Int32).toNatClampNeg (64 : Int32).toNatClampNeg
set_option maxHeartbeats 4000000 in
set_option maxRecDepth 100000 in
theorem c_Names_takeBack (l : Launch) (dC : Nat → ClassId) (dI : Nat → Nat → Nat) (sz : Nat) (h0 : Nat) (n_heap : Nat) (n_globalNames : Nat) (n_globalValues : Nat) (n_globals : Int32) (n_localNames : Nat) (n_localValues : Nat) (n_locals : Int32) (n_keptValues : Nat) (n_keptGlobals : Int32) (n_globalValues_v : Nat → Int32) (n_keptValues_v : Nat → Int32) (cI : ClassId)  : Met l y_Names_takeBack w_Names_takeBack ({ frames := 1, cells := 0, slots := 0, locals := 40 }) (va_Pc [.ref h0] (fun U => U.heap.size = sz ∧ va_P (dC, dI) classes [(h0, .inr (3, [.ref n_heap, .ref n_globalNames, .ref n_globalValues, .int n_globals, .ref n_localNames, .ref n_localValues, .int n_locals, .ref n_keptValues, .int n_keptGlobals])), (n_globalValues, .inl (cI, 64, .inl n_globalValues_v)), (n_keptValues, .inl (cI, 64, .inl n_keptValues_v))] U.heap ∧ va_K (dC, dI) classes [(cI, .int)] U ∧ va_D (fun _ => True) [(h0, .inr (3, [.ref n_heap, .ref n_globalNames, .ref n_globalValues, .int n_globals, .ref n_localNames, .ref n_localValues, .int n_locals, .ref n_keptValues, .int n_keptGlobals])), (n_globalValues, .inl (cI, 64, .inl n_globalValues_v)), (n_keptValues, .inl (cI, 64, .inl n_keptValues_v))])) (va_Qv (fun (_ : Unit) => True) (fun (_ : Unit) t => va_P (dC, dI) classes [(h0, .inr (3, [.ref n_heap, .ref n_globalNames, .ref n_globalValues, .int (m_Names_takeBack_w0_3 n_keptGlobals), .ref n_localNames, .ref n_localValues, .int n_locals, .ref n_keptValues, .int n_keptGlobals])), (n_globalValues, .inl (cI, 64, .inl (m_Names_takeBack_w1 n_globalValues_v n_keptValues_v))), (n_keptValues, .inl (cI, 64, .inl n_keptValues_v))] t.heap ∧ va_K (dC, dI) classes [(cI, .int)] t ∧ va_D (va_A [(h0, .inr (3, [.ref n_heap, .ref n_globalNames, .ref n_globalValues, .int n_globals, .ref n_localNames, .ref n_localValues, .int n_locals, .ref n_keptValues, .int n_keptGlobals])), (n_globalValues, .inl (cI, 64, .inl n_globalValues_v)), (n_keptValues, .inl (cI, 64, .inl n_keptValues_v))] sz) [(h0, .inr (3, [.ref n_heap, .ref n_globalNames, .ref n_globalValues, .int (m_Names_takeBack_w0_3 n_keptGlobals), .ref n_localNames, .ref n_localValues, .int n_locals, .ref n_keptValues, .int n_keptGlobals])), (n_globalValues, .inl (cI, 64, .inl (m_Names_takeBack_w1 n_globalValues_v n_keptValues_v))), (n_keptValues, .inl (cI, 64, .inl n_keptValues_v))]) (va_A [(h0, .inr (3, [.ref n_heap, .ref n_globalNames, .ref n_globalValues, .int n_globals, .ref n_localNames, .ref n_localValues, .int n_locals, .ref n_keptValues, .int n_keptGlobals])), (n_globalValues, .inl (cI, 64, .inl n_globalValues_v)), (n_keptValues, .inl (cI, 64, .inl n_keptValues_v))] sz)) 0 0 (va_A [(h0, .inr (3, [.ref n_heap, .ref n_globalNames, .ref n_globalValues, .int n_globals, .ref n_localNames, .ref n_localValues, .int n_locals, .ref n_keptValues, .int n_keptGlobals])), (n_globalValues, .inl (cI, 64, .inl n_globalValues_v)), (n_keptValues, .inl (cI, 64, .inl n_keptValues_v))] sz) := by
  refine Met.ofW (cc := b_Names_takeBack) (maxL := 1) (ret := none) (by decide) rfl ?_
  intro p e s m args below meth c s₁ B hml hv
  obtain ⟨rfl, hsz, hP, hK, hD0⟩ := hv
  have hx := B.exec
  have hb := B.bytes
  have hr := B.returns
  have hts := atoms_spec (ws := w_Names_takeBack) B.pre
  have htt : ∀ w ∈ tw_T, w.before _ s = true := fun w h => hts w (List.mem_cons_of_mem _ h)
  have hown : s.vm.findClass R_Names = some m.cls := findClass_of_methodNamed B.named
  have hlocks := B.notSynchronized
  subst hsz
  have hD := hD0.self (sz := s.heap.size)
  generalize hAe : va_A [(h0, .inr (3, [.ref n_heap, .ref n_globalNames, .ref n_globalValues, .int n_globals, .ref n_localNames, .ref n_localValues, .int n_locals, .ref n_keptValues, .int n_keptGlobals])), (n_globalValues, .inl (cI, 64, .inl n_globalValues_v)), (n_keptValues, .inl (cI, 64, .inl n_keptValues_v))] s.heap.size = A at hD ⊢
  have hA : ∀ q : Nat, s.heap.size ≤ q → A q := fun q h => by rw [← hAe]; exact Or.inr h
  have hS : va_S A s.heap s.heap [] := va_S.rf
  have hP : va_P (dC, dI) classes [(h0, .inr (3, [.ref n_heap, .ref n_globalNames, .ref n_globalValues, .int n_globals, .ref n_localNames, .ref n_localValues, .int n_locals, .ref n_keptValues, .int n_keptGlobals])), (n_globalValues, .inl (cI, 64, .inl n_globalValues_v)), (n_keptValues, .inl (cI, 64, .inl n_keptValues_v))] s.heap := hP
  have hl := lv_entry ([.ref h0]) (n := 1) (Nat.le_of_ble_eq_true rfl)
  rw [lg_entry_eq]
  generalize (lg_sl ([.ref h0]) ++ List.replicate (1 - (lg_sl ([.ref h0])).length) Slot.unset).toArray = ls at hl ⊢
  have hl : lv_has ls 1 [(0, .ref h0)] := hl
  refine lv_aload_n hx hb d_Names_takeBack_0 rfl (lv_at hl 0 rfl) ?_
  refine lv_aload_n hx hb d_Names_takeBack_1 rfl (lv_at hl 0 rfl) ?_
  refine va_get (D := (dC, dI)) (ci := 3) (v := .int n_keptGlobals) (C := R_Names) (T := F_Names) (N := 9) hx hb htt iw_Names hown hK hP 0 rfl rfl 8 (by decide) (htt _ lk_Names_66) (fun _ h9 => h9) rfl d_Names_takeBack_2 ?_
  refine va_put (D := (dC, dI)) (ci := 3) (v := .int n_keptGlobals) (ty := .int) (C := R_Names) (T := F_Names) (N := 9) hx hb htt iw_Names t_Names t_Names_ok n_Names hown hK hP hD hS 0 rfl rfl 3 (by decide) (htt _ lk_Names_41) (fun _ h9 => h9) rfl (by decide +kernel) rfl rfl (Nat.le_of_ble_eq_true rfl) d_Names_takeBack_5 (fun H locs hP hD hS => ?_)
  have hP : va_P (dC, dI) classes [(h0, .inr (3, [.ref n_heap, .ref n_globalNames, .ref n_globalValues, .int n_keptGlobals, .ref n_localNames, .ref n_localValues, .int n_locals, .ref n_keptValues, .int n_keptGlobals])), (n_globalValues, .inl (cI, 64, .inl n_globalValues_v)), (n_keptValues, .inl (cI, 64, .inl n_keptValues_v))] H := hP
  have hD : va_D A [(h0, .inr (3, [.ref n_heap, .ref n_globalNames, .ref n_globalValues, .int n_keptGlobals, .ref n_localNames, .ref n_localValues, .int n_locals, .ref n_keptValues, .int n_keptGlobals])), (n_globalValues, .inl (cI, 64, .inl n_globalValues_v)), (n_keptValues, .inl (cI, 64, .inl n_keptValues_v))] := hD
  refine lv_aload_n hx hb d_Names_takeBack_8 rfl (lv_at hl 0 rfl) ?_
  refine va_get (D := (dC, dI)) (ci := 3) (v := .ref n_keptValues) (C := R_Names) (T := F_Names) (N := 9) hx hb htt iw_Names hown hK hP 0 rfl rfl 7 (by decide) (htt _ lk_Names_24) (fun _ h9 => h9) rfl d_Names_takeBack_9 ?_
  refine lv_iconst (v := 0) hx hb d_Names_takeBack_12 (by decide) ?_
  refine lv_aload_n hx hb d_Names_takeBack_13 rfl (lv_at hl 0 rfl) ?_
  refine va_get (D := (dC, dI)) (ci := 3) (v := .ref n_globalValues) (C := R_Names) (T := F_Names) (N := 9) hx hb htt iw_Names hown hK hP 0 rfl rfl 2 (by decide) (htt _ lk_Names_15) (fun _ h9 => h9) rfl d_Names_takeBack_14 ?_
  refine lv_iconst (v := 0) hx hb d_Names_takeBack_17 (by decide) ?_
  refine lv_bipush (v := 64) hx hb d_Names_takeBack_18 (by decide) ?_
  refine va_copyi hx hb (by rw [hml]; exact hl.1.symm) hown (htt _ lk_Names_69) (htt _ na_arraycopy) (htt _ st_arraycopy) (htt _ ini_System) hK hP hD hS 2 1 0 0 (ty := .int) (sp := 0) (dp := 0) (n := 64) rfl rfl rfl rfl rfl (by decide) (by decide) (by decide) (by decide) (by decide) (fun _ _ => rfl) (Nat.le_of_ble_eq_true rfl) (Nat.le_of_ble_eq_true rfl) d_Names_takeBack_20 (fun H locs hP hD hS => ?_)
  have hP : va_P (dC, dI) classes [(h0, .inr (3, [.ref n_heap, .ref n_globalNames, .ref n_globalValues, .int n_keptGlobals, .ref n_localNames, .ref n_localValues, .int n_locals, .ref n_keptValues, .int n_keptGlobals])), (n_globalValues, .inl (cI, 64, .inl (va_cpy n_keptValues_v n_globalValues_v (0 : Int32).toNatClampNeg (0 : Int32).toNatClampNeg (64 : Int32).toNatClampNeg))), (n_keptValues, .inl (cI, 64, .inl n_keptValues_v))] H := hP
  have hD : va_D A [(h0, .inr (3, [.ref n_heap, .ref n_globalNames, .ref n_globalValues, .int n_keptGlobals, .ref n_localNames, .ref n_localValues, .int n_locals, .ref n_keptValues, .int n_keptGlobals])), (n_globalValues, .inl (cI, 64, .inl (va_cpy n_keptValues_v n_globalValues_v (0 : Int32).toNatClampNeg (0 : Int32).toNatClampNeg (64 : Int32).toNatClampNeg))), (n_keptValues, .inl (cI, 64, .inl n_keptValues_v))] := hD
  have hP9 := hP.sub (ws' := [(h0, .inr (3, [.ref n_heap, .ref n_globalNames, .ref n_globalValues, .int n_keptGlobals, .ref n_localNames, .ref n_localValues, .int n_locals, .ref n_keptValues, .int n_keptGlobals])), (n_globalValues, .inl (cI, 64, .inl (va_cpy n_keptValues_v n_globalValues_v (0 : Int32).toNatClampNeg (0 : Int32).toNatClampNeg (64 : Int32).toNatClampNeg))), (n_keptValues, .inl (cI, 64, .inl n_keptValues_v))]) [0, 1, 2] rfl
  have hD9 := hD.sub (ws' := [(h0, .inr (3, [.ref n_heap, .ref n_globalNames, .ref n_globalValues, .int n_keptGlobals, .ref n_localNames, .ref n_localValues, .int n_locals, .ref n_keptValues, .int n_keptGlobals])), (n_globalValues, .inl (cI, 64, .inl (va_cpy n_keptValues_v n_globalValues_v (0 : Int32).toNatClampNeg (0 : Int32).toNatClampNeg (64 : Int32).toNatClampNeg))), (n_keptValues, .inl (cI, 64, .inl n_keptValues_v))]) [0, 1, 2] (by decide) rfl
  have eW : [(h0, .inr (3, [.ref n_heap, .ref n_globalNames, .ref n_globalValues, .int n_keptGlobals, .ref n_localNames, .ref n_localValues, .int n_locals, .ref n_keptValues, .int n_keptGlobals])), (n_globalValues, .inl (cI, 64, .inl (va_cpy n_keptValues_v n_globalValues_v (0 : Int32).toNatClampNeg (0 : Int32).toNatClampNeg (64 : Int32).toNatClampNeg))), (n_keptValues, .inl (cI, 64, .inl n_keptValues_v))] = ([(h0, .inr (3, [.ref n_heap, .ref n_globalNames, .ref n_globalValues, .int (m_Names_takeBack_w0_3 n_keptGlobals), .ref n_localNames, .ref n_localValues, .int n_locals, .ref n_keptValues, .int n_keptGlobals])), (n_globalValues, .inl (cI, 64, .inl (m_Names_takeBack_w1 n_globalValues_v n_keptValues_v))), (n_keptValues, .inl (cI, 64, .inl n_keptValues_v))] : va_W) := by unfold m_Names_takeBack_w0_3 m_Names_takeBack_w1; rfl
  rw [eW] at hP9 hD9
  exact W.vret hx hb hr (fun t9 ht hW => ⟨⟨(), rfl, trivial, by rw [ht]; exact hP9, va_K.moved hW.alike hK, hD9⟩, hS.F ht⟩) hS.2.2 d_Names_takeBack_23

def m_Procedures_keep_w0_7 (u_count : Int32) : Int32 := u_count
def m_Procedures_keep_w3 (u_inputs_v : Nat → Int32) (u_keptInputs_v : Nat → Int32) : Nat → Int32 := va_cpy u_inputs_v u_keptInputs_v (0 : Int32).toNatClampNeg (0 : Int32).toNatClampNeg (40 : Int32).toNatClampNeg
def m_Procedures_keep_w4 (u_bodies_v : Nat → Int32) (u_keptBodies_v : Nat → Int32) : Nat → Int32 := va_cpy u_bodies_v u_keptBodies_v (0 : Int32).toNatClampNeg (0 : Int32).toNatClampNeg (40 : Int32).toNatClampNeg
set_option maxHeartbeats 4000000 in
set_option maxRecDepth 100000 in
theorem c_Procedures_keep (l : Launch) (dC : Nat → ClassId) (dI : Nat → Nat → Nat) (sz : Nat) (h0 : Nat) (u_heap : Nat) (u_names : Nat) (u_inputs : Nat) (u_bodies : Nat) (u_count : Int32) (u_keptInputs : Nat) (u_keptBodies : Nat) (u_keptCount : Int32) (u_inputs_v : Nat → Int32) (u_bodies_v : Nat → Int32) (u_keptInputs_v : Nat → Int32) (u_keptBodies_v : Nat → Int32) (cI : ClassId)  : Met l y_Procedures_keep w_Procedures_keep ({ frames := 1, cells := 0, slots := 0, locals := 40 }) (va_Pc [.ref h0] (fun U => U.heap.size = sz ∧ va_P (dC, dI) classes [(h0, .inr (4, [.ref u_heap, .ref u_names, .ref u_inputs, .ref u_bodies, .int u_count, .ref u_keptInputs, .ref u_keptBodies, .int u_keptCount])), (u_inputs, .inl (cI, 40, .inl u_inputs_v)), (u_bodies, .inl (cI, 40, .inl u_bodies_v)), (u_keptInputs, .inl (cI, 40, .inl u_keptInputs_v)), (u_keptBodies, .inl (cI, 40, .inl u_keptBodies_v))] U.heap ∧ va_K (dC, dI) classes [(cI, .int)] U ∧ va_D (fun _ => True) [(h0, .inr (4, [.ref u_heap, .ref u_names, .ref u_inputs, .ref u_bodies, .int u_count, .ref u_keptInputs, .ref u_keptBodies, .int u_keptCount])), (u_inputs, .inl (cI, 40, .inl u_inputs_v)), (u_bodies, .inl (cI, 40, .inl u_bodies_v)), (u_keptInputs, .inl (cI, 40, .inl u_keptInputs_v)), (u_keptBodies, .inl (cI, 40, .inl u_keptBodies_v))])) (va_Qv (fun (_ : Unit) => True) (fun (_ : Unit) t => va_P (dC, dI) classes [(h0, .inr (4, [.ref u_heap, .ref u_names, .ref u_inputs, .ref u_bodies, .int u_count, .ref u_keptInputs, .ref u_keptBodies, .int (m_Procedures_keep_w0_7 u_count)])), (u_inputs, .inl (cI, 40, .inl u_inputs_v)), (u_bodies, .inl (cI, 40, .inl u_bodies_v)), (u_keptInputs, .inl (cI, 40, .inl (m_Procedures_keep_w3 u_inputs_v u_keptInputs_v))), (u_keptBodies, .inl (cI, 40, .inl (m_Procedures_keep_w4 u_bodies_v u_keptBodies_v)))] t.heap ∧ va_K (dC, dI) classes [(cI, .int)] t ∧ va_D (va_A [(h0, .inr (4, [.ref u_heap, .ref u_names, .ref u_inputs, .ref u_bodies, .int u_count, .ref u_keptInputs, .ref u_keptBodies, .int u_keptCount])), (u_inputs, .inl (cI, 40, .inl u_inputs_v)), (u_bodies, .inl (cI, 40, .inl u_bodies_v)), (u_keptInputs, .inl (cI, 40, .inl u_keptInputs_v)), (u_keptBodies, .inl (cI, 40, .inl u_keptBodies_v))] sz) [(h0, .inr (4, [.ref u_heap, .ref u_names, .ref u_inputs, .ref u_bodies, .int u_count, .ref u_keptInputs, .ref u_keptBodies, .int (m_Procedures_keep_w0_7 u_count)])), (u_inputs, .inl (cI, 40, .inl u_inputs_v)), (u_bodies, .inl (cI, 40, .inl u_bodies_v)), (u_keptInputs, .inl (cI, 40, .inl (m_Procedures_keep_w3 u_inputs_v u_keptInputs_v))), (u_keptBodies, .inl (cI, 40, .inl (m_Procedures_keep_w4 u_bodies_v u_keptBodies_v)))]) (va_A [(h0, .inr (4, [.ref u_heap, .ref u_names, .ref u_inputs, .ref u_bodies, .int u_count, .ref u_keptInputs, .ref u_keptBodies, .int u_keptCount])), (u_inputs, .inl (cI, 40, .inl u_inputs_v)), (u_bodies, .inl (cI, 40, .inl u_bodies_v)), (u_keptInputs, .inl (cI, 40, .inl u_keptInputs_v)), (u_keptBodies, .inl (cI, 40, .inl u_keptBodies_v))] sz)) 0 0 (va_A [(h0, .inr (4, [.ref u_heap, .ref u_names, .ref u_inputs, .ref u_bodies, .int u_count, .ref u_keptInputs, .ref u_keptBodies, .int u_keptCount])), (u_inputs, .inl (cI, 40, .inl u_inputs_v)), (u_bodies, .inl (cI, 40, .inl u_bodies_v)), (u_keptInputs, .inl (cI, 40, .inl u_keptInputs_v)), (u_keptBodies, .inl (cI, 40, .inl u_keptBodies_v))] sz) := by
  refine Met.ofW (cc := b_Procedures_keep) (maxL := 1) (ret := none) (by decide) rfl ?_
  intro p e s m args below meth c s₁ B hml hv
  obtain ⟨rfl, hsz, hP, hK, hD0⟩ := hv
  have hx := B.exec
  have hb := B.bytes
  have hr := B.returns
  have hts := atoms_spec (ws := w_Procedures_keep) B.pre
  have htt : ∀ w ∈ tw_T, w.before _ s = true := fun w h => hts w (List.mem_cons_of_mem _ h)
  have hown : s.vm.findClass R_Procedures = some m.cls := findClass_of_methodNamed B.named
  have hlocks := B.notSynchronized
  subst hsz
  have hD := hD0.self (sz := s.heap.size)
  generalize hAe : va_A [(h0, .inr (4, [.ref u_heap, .ref u_names, .ref u_inputs, .ref u_bodies, .int u_count, .ref u_keptInputs, .ref u_keptBodies, .int u_keptCount])), (u_inputs, .inl (cI, 40, .inl u_inputs_v)), (u_bodies, .inl (cI, 40, .inl u_bodies_v)), (u_keptInputs, .inl (cI, 40, .inl u_keptInputs_v)), (u_keptBodies, .inl (cI, 40, .inl u_keptBodies_v))] s.heap.size = A at hD ⊢
  have hA : ∀ q : Nat, s.heap.size ≤ q → A q := fun q h => by rw [← hAe]; exact Or.inr h
  have hS : va_S A s.heap s.heap [] := va_S.rf
  have hP : va_P (dC, dI) classes [(h0, .inr (4, [.ref u_heap, .ref u_names, .ref u_inputs, .ref u_bodies, .int u_count, .ref u_keptInputs, .ref u_keptBodies, .int u_keptCount])), (u_inputs, .inl (cI, 40, .inl u_inputs_v)), (u_bodies, .inl (cI, 40, .inl u_bodies_v)), (u_keptInputs, .inl (cI, 40, .inl u_keptInputs_v)), (u_keptBodies, .inl (cI, 40, .inl u_keptBodies_v))] s.heap := hP
  have hl := lv_entry ([.ref h0]) (n := 1) (Nat.le_of_ble_eq_true rfl)
  rw [lg_entry_eq]
  generalize (lg_sl ([.ref h0]) ++ List.replicate (1 - (lg_sl ([.ref h0])).length) Slot.unset).toArray = ls at hl ⊢
  have hl : lv_has ls 1 [(0, .ref h0)] := hl
  refine lv_aload_n hx hb d_Procedures_keep_0 rfl (lv_at hl 0 rfl) ?_
  refine lv_aload_n hx hb d_Procedures_keep_1 rfl (lv_at hl 0 rfl) ?_
  refine va_get (D := (dC, dI)) (ci := 4) (v := .int u_count) (C := R_Procedures) (T := F_Procedures) (N := 8) hx hb htt iw_Procedures hown hK hP 0 rfl rfl 4 (by decide) (htt _ lk_Procedures_31) (fun _ h9 => h9) rfl d_Procedures_keep_2 ?_
  refine va_put (D := (dC, dI)) (ci := 4) (v := .int u_count) (ty := .int) (C := R_Procedures) (T := F_Procedures) (N := 8) hx hb htt iw_Procedures t_Procedures t_Procedures_ok n_Procedures hown hK hP hD hS 0 rfl rfl 7 (by decide) (htt _ lk_Procedures_48) (fun _ h9 => h9) rfl (by decide +kernel) rfl rfl (Nat.le_of_ble_eq_true rfl) d_Procedures_keep_5 (fun H locs hP hD hS => ?_)
  have hP : va_P (dC, dI) classes [(h0, .inr (4, [.ref u_heap, .ref u_names, .ref u_inputs, .ref u_bodies, .int u_count, .ref u_keptInputs, .ref u_keptBodies, .int u_count])), (u_inputs, .inl (cI, 40, .inl u_inputs_v)), (u_bodies, .inl (cI, 40, .inl u_bodies_v)), (u_keptInputs, .inl (cI, 40, .inl u_keptInputs_v)), (u_keptBodies, .inl (cI, 40, .inl u_keptBodies_v))] H := hP
  have hD : va_D A [(h0, .inr (4, [.ref u_heap, .ref u_names, .ref u_inputs, .ref u_bodies, .int u_count, .ref u_keptInputs, .ref u_keptBodies, .int u_count])), (u_inputs, .inl (cI, 40, .inl u_inputs_v)), (u_bodies, .inl (cI, 40, .inl u_bodies_v)), (u_keptInputs, .inl (cI, 40, .inl u_keptInputs_v)), (u_keptBodies, .inl (cI, 40, .inl u_keptBodies_v))] := hD
  refine lv_aload_n hx hb d_Procedures_keep_8 rfl (lv_at hl 0 rfl) ?_
  refine va_get (D := (dC, dI)) (ci := 4) (v := .ref u_inputs) (C := R_Procedures) (T := F_Procedures) (N := 8) hx hb htt iw_Procedures hown hK hP 0 rfl rfl 2 (by decide) (htt _ lk_Procedures_15) (fun _ h9 => h9) rfl d_Procedures_keep_9 ?_
  refine lv_iconst (v := 0) hx hb d_Procedures_keep_12 (by decide) ?_
  refine lv_aload_n hx hb d_Procedures_keep_13 rfl (lv_at hl 0 rfl) ?_
  refine va_get (D := (dC, dI)) (ci := 4) (v := .ref u_keptInputs) (C := R_Procedures) (T := F_Procedures) (N := 8) hx hb htt iw_Procedures hown hK hP 0 rfl rfl 5 (by decide) (htt _ lk_Procedures_21) (fun _ h9 => h9) rfl d_Procedures_keep_14 ?_
  refine lv_iconst (v := 0) hx hb d_Procedures_keep_17 (by decide) ?_
  refine lv_bipush (v := 40) hx hb d_Procedures_keep_18 (by decide) ?_
  refine va_copyi hx hb (by rw [hml]; exact hl.1.symm) hown (htt _ lk_Procedures_51) (htt _ na_arraycopy) (htt _ st_arraycopy) (htt _ ini_System) hK hP hD hS 1 3 0 0 (ty := .int) (sp := 0) (dp := 0) (n := 40) rfl rfl rfl rfl rfl (by decide) (by decide) (by decide) (by decide) (by decide) (fun _ _ => rfl) (Nat.le_of_ble_eq_true rfl) (Nat.le_of_ble_eq_true rfl) d_Procedures_keep_20 (fun H locs hP hD hS => ?_)
  have hP : va_P (dC, dI) classes [(h0, .inr (4, [.ref u_heap, .ref u_names, .ref u_inputs, .ref u_bodies, .int u_count, .ref u_keptInputs, .ref u_keptBodies, .int u_count])), (u_inputs, .inl (cI, 40, .inl u_inputs_v)), (u_bodies, .inl (cI, 40, .inl u_bodies_v)), (u_keptInputs, .inl (cI, 40, .inl (va_cpy u_inputs_v u_keptInputs_v (0 : Int32).toNatClampNeg (0 : Int32).toNatClampNeg (40 : Int32).toNatClampNeg))), (u_keptBodies, .inl (cI, 40, .inl u_keptBodies_v))] H := hP
  have hD : va_D A [(h0, .inr (4, [.ref u_heap, .ref u_names, .ref u_inputs, .ref u_bodies, .int u_count, .ref u_keptInputs, .ref u_keptBodies, .int u_count])), (u_inputs, .inl (cI, 40, .inl u_inputs_v)), (u_bodies, .inl (cI, 40, .inl u_bodies_v)), (u_keptInputs, .inl (cI, 40, .inl (va_cpy u_inputs_v u_keptInputs_v (0 : Int32).toNatClampNeg (0 : Int32).toNatClampNeg (40 : Int32).toNatClampNeg))), (u_keptBodies, .inl (cI, 40, .inl u_keptBodies_v))] := hD
  refine lv_aload_n hx hb d_Procedures_keep_23 rfl (lv_at hl 0 rfl) ?_
  refine va_get (D := (dC, dI)) (ci := 4) (v := .ref u_bodies) (C := R_Procedures) (T := F_Procedures) (N := 8) hx hb htt iw_Procedures hown hK hP 0 rfl rfl 3 (by decide) (htt _ lk_Procedures_18) (fun _ h9 => h9) rfl d_Procedures_keep_24 ?_
  refine lv_iconst (v := 0) hx hb d_Procedures_keep_27 (by decide) ?_
  refine lv_aload_n hx hb d_Procedures_keep_28 rfl (lv_at hl 0 rfl) ?_
  refine va_get (D := (dC, dI)) (ci := 4) (v := .ref u_keptBodies) (C := R_Procedures) (T := F_Procedures) (N := 8) hx hb htt iw_Procedures hown hK hP 0 rfl rfl 6 (by decide) (htt _ lk_Procedures_24) (fun _ h9 => h9) rfl d_Procedures_keep_29 ?_
  refine lv_iconst (v := 0) hx hb d_Procedures_keep_32 (by decide) ?_
  refine lv_bipush (v := 40) hx hb d_Procedures_keep_33 (by decide) ?_
  refine va_copyi hx hb (by rw [hml]; exact hl.1.symm) hown (htt _ lk_Procedures_51) (htt _ na_arraycopy) (htt _ st_arraycopy) (htt _ ini_System) hK hP hD hS 2 4 0 0 (ty := .int) (sp := 0) (dp := 0) (n := 40) rfl rfl rfl rfl rfl (by decide) (by decide) (by decide) (by decide) (by decide) (fun _ _ => rfl) (Nat.le_of_ble_eq_true rfl) (Nat.le_of_ble_eq_true rfl) d_Procedures_keep_35 (fun H locs hP hD hS => ?_)
  have hP : va_P (dC, dI) classes [(h0, .inr (4, [.ref u_heap, .ref u_names, .ref u_inputs, .ref u_bodies, .int u_count, .ref u_keptInputs, .ref u_keptBodies, .int u_count])), (u_inputs, .inl (cI, 40, .inl u_inputs_v)), (u_bodies, .inl (cI, 40, .inl u_bodies_v)), (u_keptInputs, .inl (cI, 40, .inl (va_cpy u_inputs_v u_keptInputs_v (0 : Int32).toNatClampNeg (0 : Int32).toNatClampNeg (40 : Int32).toNatClampNeg))), (u_keptBodies, .inl (cI, 40, .inl (va_cpy u_bodies_v u_keptBodies_v (0 : Int32).toNatClampNeg (0 : Int32).toNatClampNeg (40 : Int32).toNatClampNeg)))] H := hP
  have hD : va_D A [(h0, .inr (4, [.ref u_heap, .ref u_names, .ref u_inputs, .ref u_bodies, .int u_count, .ref u_keptInputs, .ref u_keptBodies, .int u_count])), (u_inputs, .inl (cI, 40, .inl u_inputs_v)), (u_bodies, .inl (cI, 40, .inl u_bodies_v)), (u_keptInputs, .inl (cI, 40, .inl (va_cpy u_inputs_v u_keptInputs_v (0 : Int32).toNatClampNeg (0 : Int32).toNatClampNeg (40 : Int32).toNatClampNeg))), (u_keptBodies, .inl (cI, 40, .inl (va_cpy u_bodies_v u_keptBodies_v (0 : Int32).toNatClampNeg (0 : Int32).toNatClampNeg (40 : Int32).toNatClampNeg)))] := hD
  have hP9 := hP.sub (ws' := [(h0, .inr (4, [.ref u_heap, .ref u_names, .ref u_inputs, .ref u_bodies, .int u_count, .ref u_keptInputs, .ref u_keptBodies, .int u_count])), (u_inputs, .inl (cI, 40, .inl u_inputs_v)), (u_bodies, .inl (cI, 40, .inl u_bodies_v)), (u_keptInputs, .inl (cI, 40, .inl (va_cpy u_inputs_v u_keptInputs_v (0 : Int32).toNatClampNeg (0 : Int32).toNatClampNeg (40 : Int32).toNatClampNeg))), (u_keptBodies, .inl (cI, 40, .inl (va_cpy u_bodies_v u_keptBodies_v (0 : Int32).toNatClampNeg (0 : Int32).toNatClampNeg (40 : Int32).toNatClampNeg)))]) [0, 1, 2, 3, 4] rfl
  have hD9 := hD.sub (ws' := [(h0, .inr (4, [.ref u_heap, .ref u_names, .ref u_inputs, .ref u_bodies, .int u_count, .ref u_keptInputs, .ref u_keptBodies, .int u_count])), (u_inputs, .inl (cI, 40, .inl u_inputs_v)), (u_bodies, .inl (cI, 40, .inl u_bodies_v)), (u_keptInputs, .inl (cI, 40, .inl (va_cpy u_inputs_v u_keptInputs_v (0 : Int32).toNatClampNeg (0 : Int32).toNatClampNeg (40 : Int32).toNatClampNeg))), (u_keptBodies, .inl (cI, 40, .inl (va_cpy u_bodies_v u_keptBodies_v (0 : Int32).toNatClampNeg (0 : Int32).toNatClampNeg (40 : Int32).toNatClampNeg)))]) [0, 1, 2, 3, 4] (by decide) rfl
  have eW : [(h0, .inr (4, [.ref u_heap, .ref u_names, .ref u_inputs, .ref u_bodies, .int u_count, .ref u_keptInputs, .ref u_keptBodies, .int u_count])), (u_inputs, .inl (cI, 40, .inl u_inputs_v)), (u_bodies, .inl (cI, 40, .inl u_bodies_v)), (u_keptInputs, .inl (cI, 40, .inl (va_cpy u_inputs_v u_keptInputs_v (0 : Int32).toNatClampNeg (0 : Int32).toNatClampNeg (40 : Int32).toNatClampNeg))), (u_keptBodies, .inl (cI, 40, .inl (va_cpy u_bodies_v u_keptBodies_v (0 : Int32).toNatClampNeg (0 : Int32).toNatClampNeg (40 : Int32).toNatClampNeg)))] = ([(h0, .inr (4, [.ref u_heap, .ref u_names, .ref u_inputs, .ref u_bodies, .int u_count, .ref u_keptInputs, .ref u_keptBodies, .int (m_Procedures_keep_w0_7 u_count)])), (u_inputs, .inl (cI, 40, .inl u_inputs_v)), (u_bodies, .inl (cI, 40, .inl u_bodies_v)), (u_keptInputs, .inl (cI, 40, .inl (m_Procedures_keep_w3 u_inputs_v u_keptInputs_v))), (u_keptBodies, .inl (cI, 40, .inl (m_Procedures_keep_w4 u_bodies_v u_keptBodies_v)))] : va_W) := by unfold m_Procedures_keep_w0_7 m_Procedures_keep_w3 m_Procedures_keep_w4; rfl
  rw [eW] at hP9 hD9
  exact W.vret hx hb hr (fun t9 ht hW => ⟨⟨(), rfl, trivial, by rw [ht]; exact hP9, va_K.moved hW.alike hK, hD9⟩, hS.F ht⟩) hS.2.2 d_Procedures_keep_38

def m_Procedures_takeBack_w0_4 (u_keptCount : Int32) : Int32 := u_keptCount
def m_Procedures_takeBack_w1 (u_inputs_v : Nat → Int32) (u_keptInputs_v : Nat → Int32) : Nat → Int32 := va_cpy u_keptInputs_v u_inputs_v (0 : Int32).toNatClampNeg (0 : Int32).toNatClampNeg (40 : Int32).toNatClampNeg
def m_Procedures_takeBack_w2 (u_bodies_v : Nat → Int32) (u_keptBodies_v : Nat → Int32) : Nat → Int32 := va_cpy u_keptBodies_v u_bodies_v (0 : Int32).toNatClampNeg (0 : Int32).toNatClampNeg (40 : Int32).toNatClampNeg
set_option maxHeartbeats 4000000 in
set_option maxRecDepth 100000 in
theorem c_Procedures_takeBack (l : Launch) (dC : Nat → ClassId) (dI : Nat → Nat → Nat) (sz : Nat) (h0 : Nat) (u_heap : Nat) (u_names : Nat) (u_inputs : Nat) (u_bodies : Nat) (u_count : Int32) (u_keptInputs : Nat) (u_keptBodies : Nat) (u_keptCount : Int32) (u_inputs_v : Nat → Int32) (u_bodies_v : Nat → Int32) (u_keptInputs_v : Nat → Int32) (u_keptBodies_v : Nat → Int32) (cI : ClassId)  : Met l y_Procedures_takeBack w_Procedures_takeBack ({ frames := 1, cells := 0, slots := 0, locals := 40 }) (va_Pc [.ref h0] (fun U => U.heap.size = sz ∧ va_P (dC, dI) classes [(h0, .inr (4, [.ref u_heap, .ref u_names, .ref u_inputs, .ref u_bodies, .int u_count, .ref u_keptInputs, .ref u_keptBodies, .int u_keptCount])), (u_inputs, .inl (cI, 40, .inl u_inputs_v)), (u_bodies, .inl (cI, 40, .inl u_bodies_v)), (u_keptInputs, .inl (cI, 40, .inl u_keptInputs_v)), (u_keptBodies, .inl (cI, 40, .inl u_keptBodies_v))] U.heap ∧ va_K (dC, dI) classes [(cI, .int)] U ∧ va_D (fun _ => True) [(h0, .inr (4, [.ref u_heap, .ref u_names, .ref u_inputs, .ref u_bodies, .int u_count, .ref u_keptInputs, .ref u_keptBodies, .int u_keptCount])), (u_inputs, .inl (cI, 40, .inl u_inputs_v)), (u_bodies, .inl (cI, 40, .inl u_bodies_v)), (u_keptInputs, .inl (cI, 40, .inl u_keptInputs_v)), (u_keptBodies, .inl (cI, 40, .inl u_keptBodies_v))])) (va_Qv (fun (_ : Unit) => True) (fun (_ : Unit) t => va_P (dC, dI) classes [(h0, .inr (4, [.ref u_heap, .ref u_names, .ref u_inputs, .ref u_bodies, .int (m_Procedures_takeBack_w0_4 u_keptCount), .ref u_keptInputs, .ref u_keptBodies, .int u_keptCount])), (u_inputs, .inl (cI, 40, .inl (m_Procedures_takeBack_w1 u_inputs_v u_keptInputs_v))), (u_bodies, .inl (cI, 40, .inl (m_Procedures_takeBack_w2 u_bodies_v u_keptBodies_v))), (u_keptInputs, .inl (cI, 40, .inl u_keptInputs_v)), (u_keptBodies, .inl (cI, 40, .inl u_keptBodies_v))] t.heap ∧ va_K (dC, dI) classes [(cI, .int)] t ∧ va_D (va_A [(h0, .inr (4, [.ref u_heap, .ref u_names, .ref u_inputs, .ref u_bodies, .int u_count, .ref u_keptInputs, .ref u_keptBodies, .int u_keptCount])), (u_inputs, .inl (cI, 40, .inl u_inputs_v)), (u_bodies, .inl (cI, 40, .inl u_bodies_v)), (u_keptInputs, .inl (cI, 40, .inl u_keptInputs_v)), (u_keptBodies, .inl (cI, 40, .inl u_keptBodies_v))] sz) [(h0, .inr (4, [.ref u_heap, .ref u_names, .ref u_inputs, .ref u_bodies, .int (m_Procedures_takeBack_w0_4 u_keptCount), .ref u_keptInputs, .ref u_keptBodies, .int u_keptCount])), (u_inputs, .inl (cI, 40, .inl (m_Procedures_takeBack_w1 u_inputs_v u_keptInputs_v))), (u_bodies, .inl (cI, 40, .inl (m_Procedures_takeBack_w2 u_bodies_v u_keptBodies_v))), (u_keptInputs, .inl (cI, 40, .inl u_keptInputs_v)), (u_keptBodies, .inl (cI, 40, .inl u_keptBodies_v))]) (va_A [(h0, .inr (4, [.ref u_heap, .ref u_names, .ref u_inputs, .ref u_bodies, .int u_count, .ref u_keptInputs, .ref u_keptBodies, .int u_keptCount])), (u_inputs, .inl (cI, 40, .inl u_inputs_v)), (u_bodies, .inl (cI, 40, .inl u_bodies_v)), (u_keptInputs, .inl (cI, 40, .inl u_keptInputs_v)), (u_keptBodies, .inl (cI, 40, .inl u_keptBodies_v))] sz)) 0 0 (va_A [(h0, .inr (4, [.ref u_heap, .ref u_names, .ref u_inputs, .ref u_bodies, .int u_count, .ref u_keptInputs, .ref u_keptBodies, .int u_keptCount])), (u_inputs, .inl (cI, 40, .inl u_inputs_v)), (u_bodies, .inl (cI, 40, .inl u_bodies_v)), (u_keptInputs, .inl (cI, 40, .inl u_keptInputs_v)), (u_keptBodies, .inl (cI, 40, .inl u_keptBodies_v))] sz) := by
  refine Met.ofW (cc := b_Procedures_takeBack) (maxL := 1) (ret := none) (by decide) rfl ?_
  intro p e s m args below meth c s₁ B hml hv
  obtain ⟨rfl, hsz, hP, hK, hD0⟩ := hv
  have hx := B.exec
  have hb := B.bytes
  have hr := B.returns
  have hts := atoms_spec (ws := w_Procedures_takeBack) B.pre
  have htt : ∀ w ∈ tw_T, w.before _ s = true := fun w h => hts w (List.mem_cons_of_mem _ h)
  have hown : s.vm.findClass R_Procedures = some m.cls := findClass_of_methodNamed B.named
  have hlocks := B.notSynchronized
  subst hsz
  have hD := hD0.self (sz := s.heap.size)
  generalize hAe : va_A [(h0, .inr (4, [.ref u_heap, .ref u_names, .ref u_inputs, .ref u_bodies, .int u_count, .ref u_keptInputs, .ref u_keptBodies, .int u_keptCount])), (u_inputs, .inl (cI, 40, .inl u_inputs_v)), (u_bodies, .inl (cI, 40, .inl u_bodies_v)), (u_keptInputs, .inl (cI, 40, .inl u_keptInputs_v)), (u_keptBodies, .inl (cI, 40, .inl u_keptBodies_v))] s.heap.size = A at hD ⊢
  have hA : ∀ q : Nat, s.heap.size ≤ q → A q := fun q h => by rw [← hAe]; exact Or.inr h
  have hS : va_S A s.heap s.heap [] := va_S.rf
  have hP : va_P (dC, dI) classes [(h0, .inr (4, [.ref u_heap, .ref u_names, .ref u_inputs, .ref u_bodies, .int u_count, .ref u_keptInputs, .ref u_keptBodies, .int u_keptCount])), (u_inputs, .inl (cI, 40, .inl u_inputs_v)), (u_bodies, .inl (cI, 40, .inl u_bodies_v)), (u_keptInputs, .inl (cI, 40, .inl u_keptInputs_v)), (u_keptBodies, .inl (cI, 40, .inl u_keptBodies_v))] s.heap := hP
  have hl := lv_entry ([.ref h0]) (n := 1) (Nat.le_of_ble_eq_true rfl)
  rw [lg_entry_eq]
  generalize (lg_sl ([.ref h0]) ++ List.replicate (1 - (lg_sl ([.ref h0])).length) Slot.unset).toArray = ls at hl ⊢
  have hl : lv_has ls 1 [(0, .ref h0)] := hl
  refine lv_aload_n hx hb d_Procedures_takeBack_0 rfl (lv_at hl 0 rfl) ?_
  refine lv_aload_n hx hb d_Procedures_takeBack_1 rfl (lv_at hl 0 rfl) ?_
  refine va_get (D := (dC, dI)) (ci := 4) (v := .int u_keptCount) (C := R_Procedures) (T := F_Procedures) (N := 8) hx hb htt iw_Procedures hown hK hP 0 rfl rfl 7 (by decide) (htt _ lk_Procedures_48) (fun _ h9 => h9) rfl d_Procedures_takeBack_2 ?_
  refine va_put (D := (dC, dI)) (ci := 4) (v := .int u_keptCount) (ty := .int) (C := R_Procedures) (T := F_Procedures) (N := 8) hx hb htt iw_Procedures t_Procedures t_Procedures_ok n_Procedures hown hK hP hD hS 0 rfl rfl 4 (by decide) (htt _ lk_Procedures_31) (fun _ h9 => h9) rfl (by decide +kernel) rfl rfl (Nat.le_of_ble_eq_true rfl) d_Procedures_takeBack_5 (fun H locs hP hD hS => ?_)
  have hP : va_P (dC, dI) classes [(h0, .inr (4, [.ref u_heap, .ref u_names, .ref u_inputs, .ref u_bodies, .int u_keptCount, .ref u_keptInputs, .ref u_keptBodies, .int u_keptCount])), (u_inputs, .inl (cI, 40, .inl u_inputs_v)), (u_bodies, .inl (cI, 40, .inl u_bodies_v)), (u_keptInputs, .inl (cI, 40, .inl u_keptInputs_v)), (u_keptBodies, .inl (cI, 40, .inl u_keptBodies_v))] H := hP
  have hD : va_D A [(h0, .inr (4, [.ref u_heap, .ref u_names, .ref u_inputs, .ref u_bodies, .int u_keptCount, .ref u_keptInputs, .ref u_keptBodies, .int u_keptCount])), (u_inputs, .inl (cI, 40, .inl u_inputs_v)), (u_bodies, .inl (cI, 40, .inl u_bodies_v)), (u_keptInputs, .inl (cI, 40, .inl u_keptInputs_v)), (u_keptBodies, .inl (cI, 40, .inl u_keptBodies_v))] := hD
  refine lv_aload_n hx hb d_Procedures_takeBack_8 rfl (lv_at hl 0 rfl) ?_
  refine va_get (D := (dC, dI)) (ci := 4) (v := .ref u_keptInputs) (C := R_Procedures) (T := F_Procedures) (N := 8) hx hb htt iw_Procedures hown hK hP 0 rfl rfl 5 (by decide) (htt _ lk_Procedures_21) (fun _ h9 => h9) rfl d_Procedures_takeBack_9 ?_
  refine lv_iconst (v := 0) hx hb d_Procedures_takeBack_12 (by decide) ?_
  refine lv_aload_n hx hb d_Procedures_takeBack_13 rfl (lv_at hl 0 rfl) ?_
  refine va_get (D := (dC, dI)) (ci := 4) (v := .ref u_inputs) (C := R_Procedures) (T := F_Procedures) (N := 8) hx hb htt iw_Procedures hown hK hP 0 rfl rfl 2 (by decide) (htt _ lk_Procedures_15) (fun _ h9 => h9) rfl d_Procedures_takeBack_14 ?_
  refine lv_iconst (v := 0) hx hb d_Procedures_takeBack_17 (by decide) ?_
  refine lv_bipush (v := 40) hx hb d_Procedures_takeBack_18 (by decide) ?_
  refine va_copyi hx hb (by rw [hml]; exact hl.1.symm) hown (htt _ lk_Procedures_51) (htt _ na_arraycopy) (htt _ st_arraycopy) (htt _ ini_System) hK hP hD hS 3 1 0 0 (ty := .int) (sp := 0) (dp := 0) (n := 40) rfl rfl rfl rfl rfl (by decide) (by decide) (by decide) (by decide) (by decide) (fun _ _ => rfl) (Nat.le_of_ble_eq_true rfl) (Nat.le_of_ble_eq_true rfl) d_Procedures_takeBack_20 (fun H locs hP hD hS => ?_)
  have hP : va_P (dC, dI) classes [(h0, .inr (4, [.ref u_heap, .ref u_names, .ref u_inputs, .ref u_bodies, .int u_keptCount, .ref u_keptInputs, .ref u_keptBodies, .int u_keptCount])), (u_inputs, .inl (cI, 40, .inl (va_cpy u_keptInputs_v u_inputs_v (0 : Int32).toNatClampNeg (0 : Int32).toNatClampNeg (40 : Int32).toNatClampNeg))), (u_bodies, .inl (cI, 40, .inl u_bodies_v)), (u_keptInputs, .inl (cI, 40, .inl u_keptInputs_v)), (u_keptBodies, .inl (cI, 40, .inl u_keptBodies_v))] H := hP
  have hD : va_D A [(h0, .inr (4, [.ref u_heap, .ref u_names, .ref u_inputs, .ref u_bodies, .int u_keptCount, .ref u_keptInputs, .ref u_keptBodies, .int u_keptCount])), (u_inputs, .inl (cI, 40, .inl (va_cpy u_keptInputs_v u_inputs_v (0 : Int32).toNatClampNeg (0 : Int32).toNatClampNeg (40 : Int32).toNatClampNeg))), (u_bodies, .inl (cI, 40, .inl u_bodies_v)), (u_keptInputs, .inl (cI, 40, .inl u_keptInputs_v)), (u_keptBodies, .inl (cI, 40, .inl u_keptBodies_v))] := hD
  refine lv_aload_n hx hb d_Procedures_takeBack_23 rfl (lv_at hl 0 rfl) ?_
  refine va_get (D := (dC, dI)) (ci := 4) (v := .ref u_keptBodies) (C := R_Procedures) (T := F_Procedures) (N := 8) hx hb htt iw_Procedures hown hK hP 0 rfl rfl 6 (by decide) (htt _ lk_Procedures_24) (fun _ h9 => h9) rfl d_Procedures_takeBack_24 ?_
  refine lv_iconst (v := 0) hx hb d_Procedures_takeBack_27 (by decide) ?_
  refine lv_aload_n hx hb d_Procedures_takeBack_28 rfl (lv_at hl 0 rfl) ?_
  refine va_get (D := (dC, dI)) (ci := 4) (v := .ref u_bodies) (C := R_Procedures) (T := F_Procedures) (N := 8) hx hb htt iw_Procedures hown hK hP 0 rfl rfl 3 (by decide) (htt _ lk_Procedures_18) (fun _ h9 => h9) rfl d_Procedures_takeBack_29 ?_
  refine lv_iconst (v := 0) hx hb d_Procedures_takeBack_32 (by decide) ?_
  refine lv_bipush (v := 40) hx hb d_Procedures_takeBack_33 (by decide) ?_
  refine va_copyi hx hb (by rw [hml]; exact hl.1.symm) hown (htt _ lk_Procedures_51) (htt _ na_arraycopy) (htt _ st_arraycopy) (htt _ ini_System) hK hP hD hS 4 2 0 0 (ty := .int) (sp := 0) (dp := 0) (n := 40) rfl rfl rfl rfl rfl (by decide) (by decide) (by decide) (by decide) (by decide) (fun _ _ => rfl) (Nat.le_of_ble_eq_true rfl) (Nat.le_of_ble_eq_true rfl) d_Procedures_takeBack_35 (fun H locs hP hD hS => ?_)
  have hP : va_P (dC, dI) classes [(h0, .inr (4, [.ref u_heap, .ref u_names, .ref u_inputs, .ref u_bodies, .int u_keptCount, .ref u_keptInputs, .ref u_keptBodies, .int u_keptCount])), (u_inputs, .inl (cI, 40, .inl (va_cpy u_keptInputs_v u_inputs_v (0 : Int32).toNatClampNeg (0 : Int32).toNatClampNeg (40 : Int32).toNatClampNeg))), (u_bodies, .inl (cI, 40, .inl (va_cpy u_keptBodies_v u_bodies_v (0 : Int32).toNatClampNeg (0 : Int32).toNatClampNeg (40 : Int32).toNatClampNeg))), (u_keptInputs, .inl (cI, 40, .inl u_keptInputs_v)), (u_keptBodies, .inl (cI, 40, .inl u_keptBodies_v))] H := hP
  have hD : va_D A [(h0, .inr (4, [.ref u_heap, .ref u_names, .ref u_inputs, .ref u_bodies, .int u_keptCount, .ref u_keptInputs, .ref u_keptBodies, .int u_keptCount])), (u_inputs, .inl (cI, 40, .inl (va_cpy u_keptInputs_v u_inputs_v (0 : Int32).toNatClampNeg (0 : Int32).toNatClampNeg (40 : Int32).toNatClampNeg))), (u_bodies, .inl (cI, 40, .inl (va_cpy u_keptBodies_v u_bodies_v (0 : Int32).toNatClampNeg (0 : Int32).toNatClampNeg (40 : Int32).toNatClampNeg))), (u_keptInputs, .inl (cI, 40, .inl u_keptInputs_v)), (u_keptBodies, .inl (cI, 40, .inl u_keptBodies_v))] := hD
  have hP9 := hP.sub (ws' := [(h0, .inr (4, [.ref u_heap, .ref u_names, .ref u_inputs, .ref u_bodies, .int u_keptCount, .ref u_keptInputs, .ref u_keptBodies, .int u_keptCount])), (u_inputs, .inl (cI, 40, .inl (va_cpy u_keptInputs_v u_inputs_v (0 : Int32).toNatClampNeg (0 : Int32).toNatClampNeg (40 : Int32).toNatClampNeg))), (u_bodies, .inl (cI, 40, .inl (va_cpy u_keptBodies_v u_bodies_v (0 : Int32).toNatClampNeg (0 : Int32).toNatClampNeg (40 : Int32).toNatClampNeg))), (u_keptInputs, .inl (cI, 40, .inl u_keptInputs_v)), (u_keptBodies, .inl (cI, 40, .inl u_keptBodies_v))]) [0, 1, 2, 3, 4] rfl
  have hD9 := hD.sub (ws' := [(h0, .inr (4, [.ref u_heap, .ref u_names, .ref u_inputs, .ref u_bodies, .int u_keptCount, .ref u_keptInputs, .ref u_keptBodies, .int u_keptCount])), (u_inputs, .inl (cI, 40, .inl (va_cpy u_keptInputs_v u_inputs_v (0 : Int32).toNatClampNeg (0 : Int32).toNatClampNeg (40 : Int32).toNatClampNeg))), (u_bodies, .inl (cI, 40, .inl (va_cpy u_keptBodies_v u_bodies_v (0 : Int32).toNatClampNeg (0 : Int32).toNatClampNeg (40 : Int32).toNatClampNeg))), (u_keptInputs, .inl (cI, 40, .inl u_keptInputs_v)), (u_keptBodies, .inl (cI, 40, .inl u_keptBodies_v))]) [0, 1, 2, 3, 4] (by decide) rfl
  have eW : [(h0, .inr (4, [.ref u_heap, .ref u_names, .ref u_inputs, .ref u_bodies, .int u_keptCount, .ref u_keptInputs, .ref u_keptBodies, .int u_keptCount])), (u_inputs, .inl (cI, 40, .inl (va_cpy u_keptInputs_v u_inputs_v (0 : Int32).toNatClampNeg (0 : Int32).toNatClampNeg (40 : Int32).toNatClampNeg))), (u_bodies, .inl (cI, 40, .inl (va_cpy u_keptBodies_v u_bodies_v (0 : Int32).toNatClampNeg (0 : Int32).toNatClampNeg (40 : Int32).toNatClampNeg))), (u_keptInputs, .inl (cI, 40, .inl u_keptInputs_v)), (u_keptBodies, .inl (cI, 40, .inl u_keptBodies_v))] = ([(h0, .inr (4, [.ref u_heap, .ref u_names, .ref u_inputs, .ref u_bodies, .int (m_Procedures_takeBack_w0_4 u_keptCount), .ref u_keptInputs, .ref u_keptBodies, .int u_keptCount])), (u_inputs, .inl (cI, 40, .inl (m_Procedures_takeBack_w1 u_inputs_v u_keptInputs_v))), (u_bodies, .inl (cI, 40, .inl (m_Procedures_takeBack_w2 u_bodies_v u_keptBodies_v))), (u_keptInputs, .inl (cI, 40, .inl u_keptInputs_v)), (u_keptBodies, .inl (cI, 40, .inl u_keptBodies_v))] : va_W) := by unfold m_Procedures_takeBack_w0_4 m_Procedures_takeBack_w1 m_Procedures_takeBack_w2; rfl
  rw [eW] at hP9 hD9
  exact W.vret hx hb hr (fun t9 ht hW => ⟨⟨(), rfl, trivial, by rw [ht]; exact hP9, va_K.moved hW.alike hK, hD9⟩, hS.F ht⟩) hS.2.2 d_Procedures_takeBack_38

def m_Output_begin_w0_8  : Int32 := 0
set_option maxHeartbeats 4000000 in
set_option maxRecDepth 100000 in
theorem c_Output_begin (l : Launch) (dC : Nat → ClassId) (dI : Nat → Nat → Nat) (sz : Nat) (h0 : Nat) (o_heap : Nat) (o_signs : Nat) (o_next : Int32) (o_kept : Int32) (o_keptSigns : Nat) (o_keptNext : Int32) (o_keptKept : Int32) (o_text : Nat) (o_length : Int32) (o_lists : Nat) (o_nextMembers : Nat) (cI : ClassId)  : Met l y_Output_begin w_Output_begin ({ frames := 0, cells := 0, slots := 0, locals := 0 }) (va_Pc [.ref h0] (fun U => U.heap.size = sz ∧ va_P (dC, dI) classes [(h0, .inr (6, [.ref o_heap, .ref o_signs, .int o_next, .int o_kept, .ref o_keptSigns, .int o_keptNext, .int o_keptKept, .ref o_text, .int o_length, .ref o_lists, .ref o_nextMembers]))] U.heap ∧ va_K (dC, dI) classes [(cI, .int)] U ∧ va_D (fun _ => True) [(h0, .inr (6, [.ref o_heap, .ref o_signs, .int o_next, .int o_kept, .ref o_keptSigns, .int o_keptNext, .int o_keptKept, .ref o_text, .int o_length, .ref o_lists, .ref o_nextMembers]))])) (va_Qv (fun (_ : Unit) => True) (fun (_ : Unit) t => va_P (dC, dI) classes [(h0, .inr (6, [.ref o_heap, .ref o_signs, .int o_next, .int o_kept, .ref o_keptSigns, .int o_keptNext, .int o_keptKept, .ref o_text, .int m_Output_begin_w0_8, .ref o_lists, .ref o_nextMembers]))] t.heap ∧ va_K (dC, dI) classes [(cI, .int)] t ∧ va_D (va_A [(h0, .inr (6, [.ref o_heap, .ref o_signs, .int o_next, .int o_kept, .ref o_keptSigns, .int o_keptNext, .int o_keptKept, .ref o_text, .int o_length, .ref o_lists, .ref o_nextMembers]))] sz) [(h0, .inr (6, [.ref o_heap, .ref o_signs, .int o_next, .int o_kept, .ref o_keptSigns, .int o_keptNext, .int o_keptKept, .ref o_text, .int m_Output_begin_w0_8, .ref o_lists, .ref o_nextMembers]))]) (va_A [(h0, .inr (6, [.ref o_heap, .ref o_signs, .int o_next, .int o_kept, .ref o_keptSigns, .int o_keptNext, .int o_keptKept, .ref o_text, .int o_length, .ref o_lists, .ref o_nextMembers]))] sz)) 0 0 (va_A [(h0, .inr (6, [.ref o_heap, .ref o_signs, .int o_next, .int o_kept, .ref o_keptSigns, .int o_keptNext, .int o_keptKept, .ref o_text, .int o_length, .ref o_lists, .ref o_nextMembers]))] sz) := by
  refine Met.ofW (cc := b_Output_begin) (maxL := 1) (ret := none) (by decide) rfl ?_
  intro p e s m args below meth c s₁ B hml hv
  obtain ⟨rfl, hsz, hP, hK, hD0⟩ := hv
  have hx := B.exec
  have hb := B.bytes
  have hr := B.returns
  have hts := atoms_spec (ws := w_Output_begin) B.pre
  have htt : ∀ w ∈ tw_T, w.before _ s = true := fun w h => hts w (List.mem_cons_of_mem _ h)
  have hown : s.vm.findClass R_Output = some m.cls := findClass_of_methodNamed B.named
  have hlocks := B.notSynchronized
  subst hsz
  have hD := hD0.self (sz := s.heap.size)
  generalize hAe : va_A [(h0, .inr (6, [.ref o_heap, .ref o_signs, .int o_next, .int o_kept, .ref o_keptSigns, .int o_keptNext, .int o_keptKept, .ref o_text, .int o_length, .ref o_lists, .ref o_nextMembers]))] s.heap.size = A at hD ⊢
  have hA : ∀ q : Nat, s.heap.size ≤ q → A q := fun q h => by rw [← hAe]; exact Or.inr h
  have hS : va_S A s.heap s.heap [] := va_S.rf
  have hP : va_P (dC, dI) classes [(h0, .inr (6, [.ref o_heap, .ref o_signs, .int o_next, .int o_kept, .ref o_keptSigns, .int o_keptNext, .int o_keptKept, .ref o_text, .int o_length, .ref o_lists, .ref o_nextMembers]))] s.heap := hP
  have hl := lv_entry ([.ref h0]) (n := 1) (Nat.le_of_ble_eq_true rfl)
  rw [lg_entry_eq]
  generalize (lg_sl ([.ref h0]) ++ List.replicate (1 - (lg_sl ([.ref h0])).length) Slot.unset).toArray = ls at hl ⊢
  have hl : lv_has ls 1 [(0, .ref h0)] := hl
  refine lv_aload_n hx hb d_Output_begin_0 rfl (lv_at hl 0 rfl) ?_
  refine lv_iconst (v := 0) hx hb d_Output_begin_1 (by decide) ?_
  refine va_put (D := (dC, dI)) (ci := 6) (v := .int 0) (ty := .int) (C := R_Output) (T := F_Output) (N := 11) hx hb htt iw_Output t_Output t_Output_ok n_Output hown hK hP hD hS 0 rfl rfl 8 (by decide) (htt _ lk_Output_31) (fun _ h9 => h9) rfl (by decide +kernel) rfl rfl (Nat.le_of_ble_eq_true rfl) d_Output_begin_2 (fun H locs hP hD hS => ?_)
  have hP : va_P (dC, dI) classes [(h0, .inr (6, [.ref o_heap, .ref o_signs, .int o_next, .int o_kept, .ref o_keptSigns, .int o_keptNext, .int o_keptKept, .ref o_text, .int 0, .ref o_lists, .ref o_nextMembers]))] H := hP
  have hD : va_D A [(h0, .inr (6, [.ref o_heap, .ref o_signs, .int o_next, .int o_kept, .ref o_keptSigns, .int o_keptNext, .int o_keptKept, .ref o_text, .int 0, .ref o_lists, .ref o_nextMembers]))] := hD
  have hP9 := hP.sub (ws' := [(h0, .inr (6, [.ref o_heap, .ref o_signs, .int o_next, .int o_kept, .ref o_keptSigns, .int o_keptNext, .int o_keptKept, .ref o_text, .int 0, .ref o_lists, .ref o_nextMembers]))]) [0] rfl
  have hD9 := hD.sub (ws' := [(h0, .inr (6, [.ref o_heap, .ref o_signs, .int o_next, .int o_kept, .ref o_keptSigns, .int o_keptNext, .int o_keptKept, .ref o_text, .int 0, .ref o_lists, .ref o_nextMembers]))]) [0] (by decide) rfl
  have eW : [(h0, .inr (6, [.ref o_heap, .ref o_signs, .int o_next, .int o_kept, .ref o_keptSigns, .int o_keptNext, .int o_keptKept, .ref o_text, .int 0, .ref o_lists, .ref o_nextMembers]))] = ([(h0, .inr (6, [.ref o_heap, .ref o_signs, .int o_next, .int o_kept, .ref o_keptSigns, .int o_keptNext, .int o_keptKept, .ref o_text, .int m_Output_begin_w0_8, .ref o_lists, .ref o_nextMembers]))] : va_W) := by unfold m_Output_begin_w0_8; rfl
  rw [eW] at hP9 hD9
  exact W.vret hx hb hr (fun t9 ht hW => ⟨⟨(), rfl, trivial, by rw [ht]; exact hP9, va_K.moved hW.alike hK, hD9⟩, hS.F ht⟩) hS.2.2 d_Output_begin_5

def m_Output_add_w0_8 (o_length : Int32) : Int32 := if ((8192 : Int32)) ≤ o_length then o_length else (o_length + 1)
def m_Output_add_w1 (o_length : Int32) (o_text_v : Nat → Int32) (k : Int32) : Nat → Int32 := if ((8192 : Int32)) ≤ o_length then o_text_v else upd o_text_v o_length.toNatClampNeg k
set_option maxHeartbeats 4000000 in
set_option maxRecDepth 100000 in
theorem c_Output_add (l : Launch) (dC : Nat → ClassId) (dI : Nat → Nat → Nat) (sz : Nat) (h0 : Nat) (o_heap : Nat) (o_signs : Nat) (o_next : Int32) (o_kept : Int32) (o_keptSigns : Nat) (o_keptNext : Int32) (o_keptKept : Int32) (o_text : Nat) (o_length : Int32) (o_lists : Nat) (o_nextMembers : Nat) (o_text_v : Nat → Int32) (cI : ClassId) (k : Int32) (hol : ¬ o_length < 0) : Met l y_Output_add w_Output_add ({ frames := 0, cells := 0, slots := 0, locals := 0 }) (va_Pc [.ref h0, .int k] (fun U => U.heap.size = sz ∧ va_P (dC, dI) classes [(h0, .inr (6, [.ref o_heap, .ref o_signs, .int o_next, .int o_kept, .ref o_keptSigns, .int o_keptNext, .int o_keptKept, .ref o_text, .int o_length, .ref o_lists, .ref o_nextMembers])), (o_text, .inl (cI, 8192, .inl o_text_v))] U.heap ∧ va_K (dC, dI) classes [(cI, .int)] U ∧ va_D (fun _ => True) [(h0, .inr (6, [.ref o_heap, .ref o_signs, .int o_next, .int o_kept, .ref o_keptSigns, .int o_keptNext, .int o_keptKept, .ref o_text, .int o_length, .ref o_lists, .ref o_nextMembers])), (o_text, .inl (cI, 8192, .inl o_text_v))])) (va_Qv (fun (_ : Unit) => True) (fun (_ : Unit) t => va_P (dC, dI) classes [(h0, .inr (6, [.ref o_heap, .ref o_signs, .int o_next, .int o_kept, .ref o_keptSigns, .int o_keptNext, .int o_keptKept, .ref o_text, .int (m_Output_add_w0_8 o_length), .ref o_lists, .ref o_nextMembers])), (o_text, .inl (cI, 8192, .inl (m_Output_add_w1 o_length o_text_v k)))] t.heap ∧ va_K (dC, dI) classes [(cI, .int)] t ∧ va_D (va_A [(h0, .inr (6, [.ref o_heap, .ref o_signs, .int o_next, .int o_kept, .ref o_keptSigns, .int o_keptNext, .int o_keptKept, .ref o_text, .int o_length, .ref o_lists, .ref o_nextMembers])), (o_text, .inl (cI, 8192, .inl o_text_v))] sz) [(h0, .inr (6, [.ref o_heap, .ref o_signs, .int o_next, .int o_kept, .ref o_keptSigns, .int o_keptNext, .int o_keptKept, .ref o_text, .int (m_Output_add_w0_8 o_length), .ref o_lists, .ref o_nextMembers])), (o_text, .inl (cI, 8192, .inl (m_Output_add_w1 o_length o_text_v k)))]) (va_A [(h0, .inr (6, [.ref o_heap, .ref o_signs, .int o_next, .int o_kept, .ref o_keptSigns, .int o_keptNext, .int o_keptKept, .ref o_text, .int o_length, .ref o_lists, .ref o_nextMembers])), (o_text, .inl (cI, 8192, .inl o_text_v))] sz)) 0 0 (va_A [(h0, .inr (6, [.ref o_heap, .ref o_signs, .int o_next, .int o_kept, .ref o_keptSigns, .int o_keptNext, .int o_keptKept, .ref o_text, .int o_length, .ref o_lists, .ref o_nextMembers])), (o_text, .inl (cI, 8192, .inl o_text_v))] sz) := by
  refine Met.ofW (cc := b_Output_add) (maxL := 2) (ret := none) (by decide) rfl ?_
  intro p e s m args below meth c s₁ B hml hv
  obtain ⟨rfl, hsz, hP, hK, hD0⟩ := hv
  have hx := B.exec
  have hb := B.bytes
  have hr := B.returns
  have hts := atoms_spec (ws := w_Output_add) B.pre
  have htt : ∀ w ∈ tw_T, w.before _ s = true := fun w h => hts w (List.mem_cons_of_mem _ h)
  have hown : s.vm.findClass R_Output = some m.cls := findClass_of_methodNamed B.named
  have hlocks := B.notSynchronized
  subst hsz
  have hD := hD0.self (sz := s.heap.size)
  generalize hAe : va_A [(h0, .inr (6, [.ref o_heap, .ref o_signs, .int o_next, .int o_kept, .ref o_keptSigns, .int o_keptNext, .int o_keptKept, .ref o_text, .int o_length, .ref o_lists, .ref o_nextMembers])), (o_text, .inl (cI, 8192, .inl o_text_v))] s.heap.size = A at hD ⊢
  have hA : ∀ q : Nat, s.heap.size ≤ q → A q := fun q h => by rw [← hAe]; exact Or.inr h
  have hS : va_S A s.heap s.heap [] := va_S.rf
  have hP : va_P (dC, dI) classes [(h0, .inr (6, [.ref o_heap, .ref o_signs, .int o_next, .int o_kept, .ref o_keptSigns, .int o_keptNext, .int o_keptKept, .ref o_text, .int o_length, .ref o_lists, .ref o_nextMembers])), (o_text, .inl (cI, 8192, .inl o_text_v))] s.heap := hP
  have hl := lv_entry ([.ref h0, .int k]) (n := 2) (Nat.le_of_ble_eq_true rfl)
  rw [lg_entry_eq]
  generalize (lg_sl ([.ref h0, .int k]) ++ List.replicate (2 - (lg_sl ([.ref h0, .int k])).length) Slot.unset).toArray = ls at hl ⊢
  have hl : lv_has ls 2 [(0, .ref h0), (1, .int k)] := hl
  refine lv_aload_n hx hb d_Output_add_0 rfl (lv_at hl 0 rfl) ?_
  refine va_get (D := (dC, dI)) (ci := 6) (v := .int o_length) (C := R_Output) (T := F_Output) (N := 11) hx hb htt iw_Output hown hK hP 0 rfl rfl 8 (by decide) (htt _ lk_Output_31) (fun _ h9 => h9) rfl d_Output_add_1 ?_
  refine lv_sipush (v := 8192) hx hb d_Output_add_4 (by decide) ?_
  refine lv_icmp_ge (tgt := 30) hx hb d_Output_add_7 (by decide) (fun c_1 => ?_) (fun c_1 => ?_)
  · have hP9 := hP.sub (ws' := [(h0, .inr (6, [.ref o_heap, .ref o_signs, .int o_next, .int o_kept, .ref o_keptSigns, .int o_keptNext, .int o_keptKept, .ref o_text, .int o_length, .ref o_lists, .ref o_nextMembers])), (o_text, .inl (cI, 8192, .inl o_text_v))]) [0, 1] rfl
    have hD9 := hD.sub (ws' := [(h0, .inr (6, [.ref o_heap, .ref o_signs, .int o_next, .int o_kept, .ref o_keptSigns, .int o_keptNext, .int o_keptKept, .ref o_text, .int o_length, .ref o_lists, .ref o_nextMembers])), (o_text, .inl (cI, 8192, .inl o_text_v))]) [0, 1] (by decide) rfl
    have eW : [(h0, .inr (6, [.ref o_heap, .ref o_signs, .int o_next, .int o_kept, .ref o_keptSigns, .int o_keptNext, .int o_keptKept, .ref o_text, .int o_length, .ref o_lists, .ref o_nextMembers])), (o_text, .inl (cI, 8192, .inl o_text_v))] = ([(h0, .inr (6, [.ref o_heap, .ref o_signs, .int o_next, .int o_kept, .ref o_keptSigns, .int o_keptNext, .int o_keptKept, .ref o_text, .int (m_Output_add_w0_8 o_length), .ref o_lists, .ref o_nextMembers])), (o_text, .inl (cI, 8192, .inl (m_Output_add_w1 o_length o_text_v k)))] : va_W) := by unfold m_Output_add_w0_8 m_Output_add_w1; simp only [if_pos c_1]
    rw [eW] at hP9 hD9
    exact W.vret hx hb hr (fun t9 ht hW => ⟨⟨(), rfl, trivial, by rw [ht]; exact hP9, va_K.moved hW.alike hK, hD9⟩, hS.F ht⟩) hS.2.2 d_Output_add_30
  · refine lv_aload_n hx hb d_Output_add_10 rfl (lv_at hl 0 rfl) ?_
    refine va_get (D := (dC, dI)) (ci := 6) (v := .ref o_text) (C := R_Output) (T := F_Output) (N := 11) hx hb htt iw_Output hown hK hP 0 rfl rfl 7 (by decide) (htt _ lk_Output_18) (fun _ h9 => h9) rfl d_Output_add_11 ?_
    refine lv_aload_n hx hb d_Output_add_14 rfl (lv_at hl 0 rfl) ?_
    refine va_get (D := (dC, dI)) (ci := 6) (v := .int o_length) (C := R_Output) (T := F_Output) (N := 11) hx hb htt iw_Output hown hK hP 0 rfl rfl 8 (by decide) (htt _ lk_Output_31) (fun _ h9 => h9) rfl d_Output_add_15 ?_
    refine lv_iload_n hx hb d_Output_add_18 rfl (lv_at hl 1 rfl) ?_
    have h_2 : vp_in o_length 8192 := by rw [vp_in_iff]; simp only [Int32.lt_iff_toInt_lt, Int32.le_iff_toInt_le, Int32.reduceToInt] at c_1 hol ⊢; omega
    refine va_iast hx hb hK hP hD hS 1 0 rfl rfl h_2 d_Output_add_19 (fun H locs hP hD hS => ?_)
    have hP : va_P (dC, dI) classes [(h0, .inr (6, [.ref o_heap, .ref o_signs, .int o_next, .int o_kept, .ref o_keptSigns, .int o_keptNext, .int o_keptKept, .ref o_text, .int o_length, .ref o_lists, .ref o_nextMembers])), (o_text, .inl (cI, 8192, .inl (upd o_text_v o_length.toNatClampNeg k)))] H := hP
    have hD : va_D A [(h0, .inr (6, [.ref o_heap, .ref o_signs, .int o_next, .int o_kept, .ref o_keptSigns, .int o_keptNext, .int o_keptKept, .ref o_text, .int o_length, .ref o_lists, .ref o_nextMembers])), (o_text, .inl (cI, 8192, .inl (upd o_text_v o_length.toNatClampNeg k)))] := hD
    refine lv_aload_n hx hb d_Output_add_20 rfl (lv_at hl 0 rfl) ?_
    refine lv_dup hx hb d_Output_add_21 rfl ?_
    refine va_get (D := (dC, dI)) (ci := 6) (v := .int o_length) (C := R_Output) (T := F_Output) (N := 11) hx hb htt iw_Output hown hK hP 0 rfl rfl 8 (by decide) (htt _ lk_Output_31) (fun _ h9 => h9) rfl d_Output_add_22 ?_
    refine lv_iconst (v := 1) hx hb d_Output_add_25 (by decide) ?_
    refine lv_iadd hx hb d_Output_add_26 ?_
    refine lv_topi (fun x_3 ex_3 => ?_)
    refine va_put (D := (dC, dI)) (ci := 6) (v := .int x_3) (ty := .int) (C := R_Output) (T := F_Output) (N := 11) hx hb htt iw_Output t_Output t_Output_ok n_Output hown hK hP hD hS 0 rfl rfl 8 (by decide) (htt _ lk_Output_31) (fun _ h9 => h9) rfl (by decide +kernel) rfl rfl (Nat.le_of_ble_eq_true rfl) d_Output_add_27 (fun H locs hP hD hS => ?_)
    have hP : va_P (dC, dI) classes [(h0, .inr (6, [.ref o_heap, .ref o_signs, .int o_next, .int o_kept, .ref o_keptSigns, .int o_keptNext, .int o_keptKept, .ref o_text, .int x_3, .ref o_lists, .ref o_nextMembers])), (o_text, .inl (cI, 8192, .inl (upd o_text_v o_length.toNatClampNeg k)))] H := hP
    have hD : va_D A [(h0, .inr (6, [.ref o_heap, .ref o_signs, .int o_next, .int o_kept, .ref o_keptSigns, .int o_keptNext, .int o_keptKept, .ref o_text, .int x_3, .ref o_lists, .ref o_nextMembers])), (o_text, .inl (cI, 8192, .inl (upd o_text_v o_length.toNatClampNeg k)))] := hD
    subst ex_3
    have hP9 := hP.sub (ws' := [(h0, .inr (6, [.ref o_heap, .ref o_signs, .int o_next, .int o_kept, .ref o_keptSigns, .int o_keptNext, .int o_keptKept, .ref o_text, .int ((o_length + 1)), .ref o_lists, .ref o_nextMembers])), (o_text, .inl (cI, 8192, .inl (upd o_text_v o_length.toNatClampNeg k)))]) [0, 1] rfl
    have hD9 := hD.sub (ws' := [(h0, .inr (6, [.ref o_heap, .ref o_signs, .int o_next, .int o_kept, .ref o_keptSigns, .int o_keptNext, .int o_keptKept, .ref o_text, .int ((o_length + 1)), .ref o_lists, .ref o_nextMembers])), (o_text, .inl (cI, 8192, .inl (upd o_text_v o_length.toNatClampNeg k)))]) [0, 1] (by decide) rfl
    have eW : [(h0, .inr (6, [.ref o_heap, .ref o_signs, .int o_next, .int o_kept, .ref o_keptSigns, .int o_keptNext, .int o_keptKept, .ref o_text, .int ((o_length + 1)), .ref o_lists, .ref o_nextMembers])), (o_text, .inl (cI, 8192, .inl (upd o_text_v o_length.toNatClampNeg k)))] = ([(h0, .inr (6, [.ref o_heap, .ref o_signs, .int o_next, .int o_kept, .ref o_keptSigns, .int o_keptNext, .int o_keptKept, .ref o_text, .int (m_Output_add_w0_8 o_length), .ref o_lists, .ref o_nextMembers])), (o_text, .inl (cI, 8192, .inl (m_Output_add_w1 o_length o_text_v k)))] : va_W) := by unfold m_Output_add_w0_8 m_Output_add_w1; simp only [if_neg c_1]
    rw [eW] at hP9 hD9
    exact W.vret hx hb hr (fun t9 ht hW => ⟨⟨(), rfl, trivial, by rw [ht]; exact hP9, va_K.moved hW.alike hK, hD9⟩, hS.F ht⟩) hS.2.2 d_Output_add_30

def m_Output_signAt_r (o_length : Int32) (o_text_v : Nat → Int32) (k : Int32) : Int32 := if k < ((0 : Int32)) then (-1) else if o_length ≤ k then (-1) else o_text_v k.toNatClampNeg
set_option maxHeartbeats 4000000 in
set_option maxRecDepth 100000 in
theorem c_Output_signAt (l : Launch) (dC : Nat → ClassId) (dI : Nat → Nat → Nat) (sz : Nat) (h0 : Nat) (o_heap : Nat) (o_signs : Nat) (o_next : Int32) (o_kept : Int32) (o_keptSigns : Nat) (o_keptNext : Int32) (o_keptKept : Int32) (o_text : Nat) (o_length : Int32) (o_lists : Nat) (o_nextMembers : Nat) (o_text_v : Nat → Int32) (cI : ClassId) (k : Int32) (hom : o_length ≤ 8192) : Met l y_Output_signAt w_Output_signAt ({ frames := 0, cells := 0, slots := 0, locals := 0 }) (va_Pc [.ref h0, .int k] (fun U => U.heap.size = sz ∧ va_P (dC, dI) classes [(h0, .inr (6, [.ref o_heap, .ref o_signs, .int o_next, .int o_kept, .ref o_keptSigns, .int o_keptNext, .int o_keptKept, .ref o_text, .int o_length, .ref o_lists, .ref o_nextMembers])), (o_text, .inl (cI, 8192, .inl o_text_v))] U.heap ∧ va_K (dC, dI) classes [(cI, .int)] U ∧ va_D (fun _ => True) [(h0, .inr (6, [.ref o_heap, .ref o_signs, .int o_next, .int o_kept, .ref o_keptSigns, .int o_keptNext, .int o_keptKept, .ref o_text, .int o_length, .ref o_lists, .ref o_nextMembers])), (o_text, .inl (cI, 8192, .inl o_text_v))])) (va_Qi (fun (r : Int32) (_ : Unit) => r = m_Output_signAt_r o_length o_text_v k) (fun (_ : Unit) t => va_P (dC, dI) classes [(h0, .inr (6, [.ref o_heap, .ref o_signs, .int o_next, .int o_kept, .ref o_keptSigns, .int o_keptNext, .int o_keptKept, .ref o_text, .int o_length, .ref o_lists, .ref o_nextMembers])), (o_text, .inl (cI, 8192, .inl o_text_v))] t.heap ∧ va_K (dC, dI) classes [(cI, .int)] t ∧ va_D (va_A [(h0, .inr (6, [.ref o_heap, .ref o_signs, .int o_next, .int o_kept, .ref o_keptSigns, .int o_keptNext, .int o_keptKept, .ref o_text, .int o_length, .ref o_lists, .ref o_nextMembers])), (o_text, .inl (cI, 8192, .inl o_text_v))] sz) [(h0, .inr (6, [.ref o_heap, .ref o_signs, .int o_next, .int o_kept, .ref o_keptSigns, .int o_keptNext, .int o_keptKept, .ref o_text, .int o_length, .ref o_lists, .ref o_nextMembers])), (o_text, .inl (cI, 8192, .inl o_text_v))]) (va_A [(h0, .inr (6, [.ref o_heap, .ref o_signs, .int o_next, .int o_kept, .ref o_keptSigns, .int o_keptNext, .int o_keptKept, .ref o_text, .int o_length, .ref o_lists, .ref o_nextMembers])), (o_text, .inl (cI, 8192, .inl o_text_v))] sz)) 0 0 (va_A [(h0, .inr (6, [.ref o_heap, .ref o_signs, .int o_next, .int o_kept, .ref o_keptSigns, .int o_keptNext, .int o_keptKept, .ref o_text, .int o_length, .ref o_lists, .ref o_nextMembers])), (o_text, .inl (cI, 8192, .inl o_text_v))] sz) := by
  refine Met.ofW (cc := b_Output_signAt) (maxL := 2) (ret := (some .int)) (by decide) rfl ?_
  intro p e s m args below meth c s₁ B hml hv
  obtain ⟨rfl, hsz, hP, hK, hD0⟩ := hv
  have hx := B.exec
  have hb := B.bytes
  have hr := B.returns
  have hts := atoms_spec (ws := w_Output_signAt) B.pre
  have htt : ∀ w ∈ tw_T, w.before _ s = true := fun w h => hts w (List.mem_cons_of_mem _ h)
  have hown : s.vm.findClass R_Output = some m.cls := findClass_of_methodNamed B.named
  have hlocks := B.notSynchronized
  subst hsz
  have hD := hD0.self (sz := s.heap.size)
  generalize hAe : va_A [(h0, .inr (6, [.ref o_heap, .ref o_signs, .int o_next, .int o_kept, .ref o_keptSigns, .int o_keptNext, .int o_keptKept, .ref o_text, .int o_length, .ref o_lists, .ref o_nextMembers])), (o_text, .inl (cI, 8192, .inl o_text_v))] s.heap.size = A at hD ⊢
  have hA : ∀ q : Nat, s.heap.size ≤ q → A q := fun q h => by rw [← hAe]; exact Or.inr h
  have hS : va_S A s.heap s.heap [] := va_S.rf
  have hP : va_P (dC, dI) classes [(h0, .inr (6, [.ref o_heap, .ref o_signs, .int o_next, .int o_kept, .ref o_keptSigns, .int o_keptNext, .int o_keptKept, .ref o_text, .int o_length, .ref o_lists, .ref o_nextMembers])), (o_text, .inl (cI, 8192, .inl o_text_v))] s.heap := hP
  have hl := lv_entry ([.ref h0, .int k]) (n := 2) (Nat.le_of_ble_eq_true rfl)
  rw [lg_entry_eq]
  generalize (lg_sl ([.ref h0, .int k]) ++ List.replicate (2 - (lg_sl ([.ref h0, .int k])).length) Slot.unset).toArray = ls at hl ⊢
  have hl : lv_has ls 2 [(0, .ref h0), (1, .int k)] := hl
  refine lv_iload_n hx hb d_Output_signAt_0 rfl (lv_at hl 1 rfl) ?_
  refine lv_if_lt (tgt := 21) hx hb d_Output_signAt_1 (by decide) (fun c_1 => ?_) (fun c_1 => ?_)
  · refine lv_iconst (v := -1) hx hb d_Output_signAt_21 (by decide) ?_
    have hP9 := hP.sub (ws' := [(h0, .inr (6, [.ref o_heap, .ref o_signs, .int o_next, .int o_kept, .ref o_keptSigns, .int o_keptNext, .int o_keptKept, .ref o_text, .int o_length, .ref o_lists, .ref o_nextMembers])), (o_text, .inl (cI, 8192, .inl o_text_v))]) [0, 1] rfl
    have hD9 := hD.sub (ws' := [(h0, .inr (6, [.ref o_heap, .ref o_signs, .int o_next, .int o_kept, .ref o_keptSigns, .int o_keptNext, .int o_keptKept, .ref o_text, .int o_length, .ref o_lists, .ref o_nextMembers])), (o_text, .inl (cI, 8192, .inl o_text_v))]) [0, 1] (by decide) rfl
    exact W.iret (v := (-1)) hx hb hr (fun t9 ht hW => ⟨⟨(-1), (), rfl, by unfold m_Output_signAt_r; simp only [if_pos c_1], by rw [ht]; exact hP9, va_K.moved hW.alike hK, hD9⟩, hS.F ht⟩) hS.2.2 d_Output_signAt_22
  · refine lv_iload_n hx hb d_Output_signAt_4 rfl (lv_at hl 1 rfl) ?_
    refine lv_aload_n hx hb d_Output_signAt_5 rfl (lv_at hl 0 rfl) ?_
    refine va_get (D := (dC, dI)) (ci := 6) (v := .int o_length) (C := R_Output) (T := F_Output) (N := 11) hx hb htt iw_Output hown hK hP 0 rfl rfl 8 (by decide) (htt _ lk_Output_31) (fun _ h9 => h9) rfl d_Output_signAt_6 ?_
    refine lv_icmp_ge (tgt := 21) hx hb d_Output_signAt_9 (by decide) (fun c_2 => ?_) (fun c_2 => ?_)
    · refine lv_iconst (v := -1) hx hb d_Output_signAt_21 (by decide) ?_
      have hP9 := hP.sub (ws' := [(h0, .inr (6, [.ref o_heap, .ref o_signs, .int o_next, .int o_kept, .ref o_keptSigns, .int o_keptNext, .int o_keptKept, .ref o_text, .int o_length, .ref o_lists, .ref o_nextMembers])), (o_text, .inl (cI, 8192, .inl o_text_v))]) [0, 1] rfl
      have hD9 := hD.sub (ws' := [(h0, .inr (6, [.ref o_heap, .ref o_signs, .int o_next, .int o_kept, .ref o_keptSigns, .int o_keptNext, .int o_keptKept, .ref o_text, .int o_length, .ref o_lists, .ref o_nextMembers])), (o_text, .inl (cI, 8192, .inl o_text_v))]) [0, 1] (by decide) rfl
      exact W.iret (v := (-1)) hx hb hr (fun t9 ht hW => ⟨⟨(-1), (), rfl, by unfold m_Output_signAt_r; simp only [if_neg c_1, if_pos c_2], by rw [ht]; exact hP9, va_K.moved hW.alike hK, hD9⟩, hS.F ht⟩) hS.2.2 d_Output_signAt_22
    · refine lv_aload_n hx hb d_Output_signAt_12 rfl (lv_at hl 0 rfl) ?_
      refine va_get (D := (dC, dI)) (ci := 6) (v := .ref o_text) (C := R_Output) (T := F_Output) (N := 11) hx hb htt iw_Output hown hK hP 0 rfl rfl 7 (by decide) (htt _ lk_Output_18) (fun _ h9 => h9) rfl d_Output_signAt_13 ?_
      refine lv_iload_n hx hb d_Output_signAt_16 rfl (lv_at hl 1 rfl) ?_
      have h_3 : vp_in k 8192 := by rw [vp_in_iff]; simp only [Int32.lt_iff_toInt_lt, Int32.le_iff_toInt_le, Int32.reduceToInt] at c_1 c_2 hom ⊢; omega
      refine va_iald hx hb hK hP 1 0 rfl rfl h_3 d_Output_signAt_17 ?_
      refine lv_goto (tgt := 22) hx hb d_Output_signAt_18 (by decide) ?_
      have hP9 := hP.sub (ws' := [(h0, .inr (6, [.ref o_heap, .ref o_signs, .int o_next, .int o_kept, .ref o_keptSigns, .int o_keptNext, .int o_keptKept, .ref o_text, .int o_length, .ref o_lists, .ref o_nextMembers])), (o_text, .inl (cI, 8192, .inl o_text_v))]) [0, 1] rfl
      have hD9 := hD.sub (ws' := [(h0, .inr (6, [.ref o_heap, .ref o_signs, .int o_next, .int o_kept, .ref o_keptSigns, .int o_keptNext, .int o_keptKept, .ref o_text, .int o_length, .ref o_lists, .ref o_nextMembers])), (o_text, .inl (cI, 8192, .inl o_text_v))]) [0, 1] (by decide) rfl
      exact W.iret (v := o_text_v k.toNatClampNeg) hx hb hr (fun t9 ht hW => ⟨⟨o_text_v k.toNatClampNeg, (), rfl, by unfold m_Output_signAt_r; simp only [if_neg c_1, if_neg c_2], by rw [ht]; exact hP9, va_K.moved hW.alike hK, hD9⟩, hS.F ht⟩) hS.2.2 d_Output_signAt_22

def m_Output_keep_w0_5 (o_next : Int32) : Int32 := o_next
def m_Output_keep_w0_6 (o_kept : Int32) : Int32 := o_kept
def m_Output_keep_w2 (o_signs_v : Nat → Int32) (o_keptSigns_v : Nat → Int32) : Nat → Int32 := va_cpy o_signs_v o_keptSigns_v (0 : Int32).toNatClampNeg (0 : Int32).toNatClampNeg (2000 : Int32).toNatClampNeg
set_option maxHeartbeats 4000000 in
set_option maxRecDepth 100000 in
theorem c_Output_keep (l : Launch) (dC : Nat → ClassId) (dI : Nat → Nat → Nat) (sz : Nat) (h0 : Nat) (o_heap : Nat) (o_signs : Nat) (o_next : Int32) (o_kept : Int32) (o_keptSigns : Nat) (o_keptNext : Int32) (o_keptKept : Int32) (o_text : Nat) (o_length : Int32) (o_lists : Nat) (o_nextMembers : Nat) (o_signs_v : Nat → Int32) (o_keptSigns_v : Nat → Int32) (cI : ClassId)  : Met l y_Output_keep w_Output_keep ({ frames := 1, cells := 0, slots := 0, locals := 40 }) (va_Pc [.ref h0] (fun U => U.heap.size = sz ∧ va_P (dC, dI) classes [(h0, .inr (6, [.ref o_heap, .ref o_signs, .int o_next, .int o_kept, .ref o_keptSigns, .int o_keptNext, .int o_keptKept, .ref o_text, .int o_length, .ref o_lists, .ref o_nextMembers])), (o_signs, .inl (cI, 2000, .inl o_signs_v)), (o_keptSigns, .inl (cI, 2000, .inl o_keptSigns_v))] U.heap ∧ va_K (dC, dI) classes [(cI, .int)] U ∧ va_D (fun _ => True) [(h0, .inr (6, [.ref o_heap, .ref o_signs, .int o_next, .int o_kept, .ref o_keptSigns, .int o_keptNext, .int o_keptKept, .ref o_text, .int o_length, .ref o_lists, .ref o_nextMembers])), (o_signs, .inl (cI, 2000, .inl o_signs_v)), (o_keptSigns, .inl (cI, 2000, .inl o_keptSigns_v))])) (va_Qv (fun (_ : Unit) => True) (fun (_ : Unit) t => va_P (dC, dI) classes [(h0, .inr (6, [.ref o_heap, .ref o_signs, .int o_next, .int o_kept, .ref o_keptSigns, .int (m_Output_keep_w0_5 o_next), .int (m_Output_keep_w0_6 o_kept), .ref o_text, .int o_length, .ref o_lists, .ref o_nextMembers])), (o_signs, .inl (cI, 2000, .inl o_signs_v)), (o_keptSigns, .inl (cI, 2000, .inl (m_Output_keep_w2 o_signs_v o_keptSigns_v)))] t.heap ∧ va_K (dC, dI) classes [(cI, .int)] t ∧ va_D (va_A [(h0, .inr (6, [.ref o_heap, .ref o_signs, .int o_next, .int o_kept, .ref o_keptSigns, .int o_keptNext, .int o_keptKept, .ref o_text, .int o_length, .ref o_lists, .ref o_nextMembers])), (o_signs, .inl (cI, 2000, .inl o_signs_v)), (o_keptSigns, .inl (cI, 2000, .inl o_keptSigns_v))] sz) [(h0, .inr (6, [.ref o_heap, .ref o_signs, .int o_next, .int o_kept, .ref o_keptSigns, .int (m_Output_keep_w0_5 o_next), .int (m_Output_keep_w0_6 o_kept), .ref o_text, .int o_length, .ref o_lists, .ref o_nextMembers])), (o_signs, .inl (cI, 2000, .inl o_signs_v)), (o_keptSigns, .inl (cI, 2000, .inl (m_Output_keep_w2 o_signs_v o_keptSigns_v)))]) (va_A [(h0, .inr (6, [.ref o_heap, .ref o_signs, .int o_next, .int o_kept, .ref o_keptSigns, .int o_keptNext, .int o_keptKept, .ref o_text, .int o_length, .ref o_lists, .ref o_nextMembers])), (o_signs, .inl (cI, 2000, .inl o_signs_v)), (o_keptSigns, .inl (cI, 2000, .inl o_keptSigns_v))] sz)) 0 0 (va_A [(h0, .inr (6, [.ref o_heap, .ref o_signs, .int o_next, .int o_kept, .ref o_keptSigns, .int o_keptNext, .int o_keptKept, .ref o_text, .int o_length, .ref o_lists, .ref o_nextMembers])), (o_signs, .inl (cI, 2000, .inl o_signs_v)), (o_keptSigns, .inl (cI, 2000, .inl o_keptSigns_v))] sz) := by
  refine Met.ofW (cc := b_Output_keep) (maxL := 1) (ret := none) (by decide) rfl ?_
  intro p e s m args below meth c s₁ B hml hv
  obtain ⟨rfl, hsz, hP, hK, hD0⟩ := hv
  have hx := B.exec
  have hb := B.bytes
  have hr := B.returns
  have hts := atoms_spec (ws := w_Output_keep) B.pre
  have htt : ∀ w ∈ tw_T, w.before _ s = true := fun w h => hts w (List.mem_cons_of_mem _ h)
  have hown : s.vm.findClass R_Output = some m.cls := findClass_of_methodNamed B.named
  have hlocks := B.notSynchronized
  subst hsz
  have hD := hD0.self (sz := s.heap.size)
  generalize hAe : va_A [(h0, .inr (6, [.ref o_heap, .ref o_signs, .int o_next, .int o_kept, .ref o_keptSigns, .int o_keptNext, .int o_keptKept, .ref o_text, .int o_length, .ref o_lists, .ref o_nextMembers])), (o_signs, .inl (cI, 2000, .inl o_signs_v)), (o_keptSigns, .inl (cI, 2000, .inl o_keptSigns_v))] s.heap.size = A at hD ⊢
  have hA : ∀ q : Nat, s.heap.size ≤ q → A q := fun q h => by rw [← hAe]; exact Or.inr h
  have hS : va_S A s.heap s.heap [] := va_S.rf
  have hP : va_P (dC, dI) classes [(h0, .inr (6, [.ref o_heap, .ref o_signs, .int o_next, .int o_kept, .ref o_keptSigns, .int o_keptNext, .int o_keptKept, .ref o_text, .int o_length, .ref o_lists, .ref o_nextMembers])), (o_signs, .inl (cI, 2000, .inl o_signs_v)), (o_keptSigns, .inl (cI, 2000, .inl o_keptSigns_v))] s.heap := hP
  have hl := lv_entry ([.ref h0]) (n := 1) (Nat.le_of_ble_eq_true rfl)
  rw [lg_entry_eq]
  generalize (lg_sl ([.ref h0]) ++ List.replicate (1 - (lg_sl ([.ref h0])).length) Slot.unset).toArray = ls at hl ⊢
  have hl : lv_has ls 1 [(0, .ref h0)] := hl
  refine lv_aload_n hx hb d_Output_keep_0 rfl (lv_at hl 0 rfl) ?_
  refine va_get (D := (dC, dI)) (ci := 6) (v := .ref o_signs) (C := R_Output) (T := F_Output) (N := 11) hx hb htt iw_Output hown hK hP 0 rfl rfl 1 (by decide) (htt _ lk_Output_11) (fun _ h9 => h9) rfl d_Output_keep_1 ?_
  refine lv_iconst (v := 0) hx hb d_Output_keep_4 (by decide) ?_
  refine lv_aload_n hx hb d_Output_keep_5 rfl (lv_at hl 0 rfl) ?_
  refine va_get (D := (dC, dI)) (ci := 6) (v := .ref o_keptSigns) (C := R_Output) (T := F_Output) (N := 11) hx hb htt iw_Output hown hK hP 0 rfl rfl 4 (by decide) (htt _ lk_Output_15) (fun _ h9 => h9) rfl d_Output_keep_6 ?_
  refine lv_iconst (v := 0) hx hb d_Output_keep_9 (by decide) ?_
  refine lv_sipush (v := 2000) hx hb d_Output_keep_10 (by decide) ?_
  refine va_copyi hx hb (by rw [hml]; exact hl.1.symm) hown (htt _ lk_Output_75) (htt _ na_arraycopy) (htt _ st_arraycopy) (htt _ ini_System) hK hP hD hS 1 2 0 0 (ty := .int) (sp := 0) (dp := 0) (n := 2000) rfl rfl rfl rfl rfl (by decide) (by decide) (by decide) (by decide) (by decide) (fun _ _ => rfl) (Nat.le_of_ble_eq_true rfl) (Nat.le_of_ble_eq_true rfl) d_Output_keep_13 (fun H locs hP hD hS => ?_)
  have hP : va_P (dC, dI) classes [(h0, .inr (6, [.ref o_heap, .ref o_signs, .int o_next, .int o_kept, .ref o_keptSigns, .int o_keptNext, .int o_keptKept, .ref o_text, .int o_length, .ref o_lists, .ref o_nextMembers])), (o_signs, .inl (cI, 2000, .inl o_signs_v)), (o_keptSigns, .inl (cI, 2000, .inl (va_cpy o_signs_v o_keptSigns_v (0 : Int32).toNatClampNeg (0 : Int32).toNatClampNeg (2000 : Int32).toNatClampNeg)))] H := hP
  have hD : va_D A [(h0, .inr (6, [.ref o_heap, .ref o_signs, .int o_next, .int o_kept, .ref o_keptSigns, .int o_keptNext, .int o_keptKept, .ref o_text, .int o_length, .ref o_lists, .ref o_nextMembers])), (o_signs, .inl (cI, 2000, .inl o_signs_v)), (o_keptSigns, .inl (cI, 2000, .inl (va_cpy o_signs_v o_keptSigns_v (0 : Int32).toNatClampNeg (0 : Int32).toNatClampNeg (2000 : Int32).toNatClampNeg)))] := hD
  refine lv_aload_n hx hb d_Output_keep_16 rfl (lv_at hl 0 rfl) ?_
  refine lv_aload_n hx hb d_Output_keep_17 rfl (lv_at hl 0 rfl) ?_
  refine va_get (D := (dC, dI)) (ci := 6) (v := .int o_next) (C := R_Output) (T := F_Output) (N := 11) hx hb htt iw_Output hown hK hP 0 rfl rfl 2 (by decide) (htt _ lk_Output_61) (fun _ h9 => h9) rfl d_Output_keep_18 ?_
  refine va_put (D := (dC, dI)) (ci := 6) (v := .int o_next) (ty := .int) (C := R_Output) (T := F_Output) (N := 11) hx hb htt iw_Output t_Output t_Output_ok n_Output hown hK hP hD hS 0 rfl rfl 5 (by decide) (htt _ lk_Output_81) (fun _ h9 => h9) rfl (by decide +kernel) rfl rfl (Nat.le_of_ble_eq_true rfl) d_Output_keep_21 (fun H locs hP hD hS => ?_)
  have hP : va_P (dC, dI) classes [(h0, .inr (6, [.ref o_heap, .ref o_signs, .int o_next, .int o_kept, .ref o_keptSigns, .int o_next, .int o_keptKept, .ref o_text, .int o_length, .ref o_lists, .ref o_nextMembers])), (o_signs, .inl (cI, 2000, .inl o_signs_v)), (o_keptSigns, .inl (cI, 2000, .inl (va_cpy o_signs_v o_keptSigns_v (0 : Int32).toNatClampNeg (0 : Int32).toNatClampNeg (2000 : Int32).toNatClampNeg)))] H := hP
  have hD : va_D A [(h0, .inr (6, [.ref o_heap, .ref o_signs, .int o_next, .int o_kept, .ref o_keptSigns, .int o_next, .int o_keptKept, .ref o_text, .int o_length, .ref o_lists, .ref o_nextMembers])), (o_signs, .inl (cI, 2000, .inl o_signs_v)), (o_keptSigns, .inl (cI, 2000, .inl (va_cpy o_signs_v o_keptSigns_v (0 : Int32).toNatClampNeg (0 : Int32).toNatClampNeg (2000 : Int32).toNatClampNeg)))] := hD
  refine lv_aload_n hx hb d_Output_keep_24 rfl (lv_at hl 0 rfl) ?_
  refine lv_aload_n hx hb d_Output_keep_25 rfl (lv_at hl 0 rfl) ?_
  refine va_get (D := (dC, dI)) (ci := 6) (v := .int o_kept) (C := R_Output) (T := F_Output) (N := 11) hx hb htt iw_Output hown hK hP 0 rfl rfl 3 (by decide) (htt _ lk_Output_64) (fun _ h9 => h9) rfl d_Output_keep_26 ?_
  refine va_put (D := (dC, dI)) (ci := 6) (v := .int o_kept) (ty := .int) (C := R_Output) (T := F_Output) (N := 11) hx hb htt iw_Output t_Output t_Output_ok n_Output hown hK hP hD hS 0 rfl rfl 6 (by decide) (htt _ lk_Output_84) (fun _ h9 => h9) rfl (by decide +kernel) rfl rfl (Nat.le_of_ble_eq_true rfl) d_Output_keep_29 (fun H locs hP hD hS => ?_)
  have hP : va_P (dC, dI) classes [(h0, .inr (6, [.ref o_heap, .ref o_signs, .int o_next, .int o_kept, .ref o_keptSigns, .int o_next, .int o_kept, .ref o_text, .int o_length, .ref o_lists, .ref o_nextMembers])), (o_signs, .inl (cI, 2000, .inl o_signs_v)), (o_keptSigns, .inl (cI, 2000, .inl (va_cpy o_signs_v o_keptSigns_v (0 : Int32).toNatClampNeg (0 : Int32).toNatClampNeg (2000 : Int32).toNatClampNeg)))] H := hP
  have hD : va_D A [(h0, .inr (6, [.ref o_heap, .ref o_signs, .int o_next, .int o_kept, .ref o_keptSigns, .int o_next, .int o_kept, .ref o_text, .int o_length, .ref o_lists, .ref o_nextMembers])), (o_signs, .inl (cI, 2000, .inl o_signs_v)), (o_keptSigns, .inl (cI, 2000, .inl (va_cpy o_signs_v o_keptSigns_v (0 : Int32).toNatClampNeg (0 : Int32).toNatClampNeg (2000 : Int32).toNatClampNeg)))] := hD
  have hP9 := hP.sub (ws' := [(h0, .inr (6, [.ref o_heap, .ref o_signs, .int o_next, .int o_kept, .ref o_keptSigns, .int o_next, .int o_kept, .ref o_text, .int o_length, .ref o_lists, .ref o_nextMembers])), (o_signs, .inl (cI, 2000, .inl o_signs_v)), (o_keptSigns, .inl (cI, 2000, .inl (va_cpy o_signs_v o_keptSigns_v (0 : Int32).toNatClampNeg (0 : Int32).toNatClampNeg (2000 : Int32).toNatClampNeg)))]) [0, 1, 2] rfl
  have hD9 := hD.sub (ws' := [(h0, .inr (6, [.ref o_heap, .ref o_signs, .int o_next, .int o_kept, .ref o_keptSigns, .int o_next, .int o_kept, .ref o_text, .int o_length, .ref o_lists, .ref o_nextMembers])), (o_signs, .inl (cI, 2000, .inl o_signs_v)), (o_keptSigns, .inl (cI, 2000, .inl (va_cpy o_signs_v o_keptSigns_v (0 : Int32).toNatClampNeg (0 : Int32).toNatClampNeg (2000 : Int32).toNatClampNeg)))]) [0, 1, 2] (by decide) rfl
  have eW : [(h0, .inr (6, [.ref o_heap, .ref o_signs, .int o_next, .int o_kept, .ref o_keptSigns, .int o_next, .int o_kept, .ref o_text, .int o_length, .ref o_lists, .ref o_nextMembers])), (o_signs, .inl (cI, 2000, .inl o_signs_v)), (o_keptSigns, .inl (cI, 2000, .inl (va_cpy o_signs_v o_keptSigns_v (0 : Int32).toNatClampNeg (0 : Int32).toNatClampNeg (2000 : Int32).toNatClampNeg)))] = ([(h0, .inr (6, [.ref o_heap, .ref o_signs, .int o_next, .int o_kept, .ref o_keptSigns, .int (m_Output_keep_w0_5 o_next), .int (m_Output_keep_w0_6 o_kept), .ref o_text, .int o_length, .ref o_lists, .ref o_nextMembers])), (o_signs, .inl (cI, 2000, .inl o_signs_v)), (o_keptSigns, .inl (cI, 2000, .inl (m_Output_keep_w2 o_signs_v o_keptSigns_v)))] : va_W) := by unfold m_Output_keep_w0_5 m_Output_keep_w0_6 m_Output_keep_w2; rfl
  rw [eW] at hP9 hD9
  exact W.vret hx hb hr (fun t9 ht hW => ⟨⟨(), rfl, trivial, by rw [ht]; exact hP9, va_K.moved hW.alike hK, hD9⟩, hS.F ht⟩) hS.2.2 d_Output_keep_32

def m_Output_takeBack_w0_2 (o_keptNext : Int32) : Int32 := o_keptNext
def m_Output_takeBack_w0_3 (o_keptKept : Int32) : Int32 := o_keptKept
def m_Output_takeBack_w1 (o_signs_v : Nat → Int32) (o_keptSigns_v : Nat → Int32) : Nat → Int32 := va_cpy o_keptSigns_v o_signs_v (0 : Int32).toNatClampNeg (0 : Int32).toNatClampNeg (2000 : Int32).toNatClampNeg
set_option maxHeartbeats 4000000 in
set_option maxRecDepth 100000 in
theorem c_Output_takeBack (l : Launch) (dC : Nat → ClassId) (dI : Nat → Nat → Nat) (sz : Nat) (h0 : Nat) (o_heap : Nat) (o_signs : Nat) (o_next : Int32) (o_kept : Int32) (o_keptSigns : Nat) (o_keptNext : Int32) (o_keptKept : Int32) (o_text : Nat) (o_length : Int32) (o_lists : Nat) (o_nextMembers : Nat) (o_signs_v : Nat → Int32) (o_keptSigns_v : Nat → Int32) (cI : ClassId)  : Met l y_Output_takeBack w_Output_takeBack ({ frames := 1, cells := 0, slots := 0, locals := 40 }) (va_Pc [.ref h0] (fun U => U.heap.size = sz ∧ va_P (dC, dI) classes [(h0, .inr (6, [.ref o_heap, .ref o_signs, .int o_next, .int o_kept, .ref o_keptSigns, .int o_keptNext, .int o_keptKept, .ref o_text, .int o_length, .ref o_lists, .ref o_nextMembers])), (o_signs, .inl (cI, 2000, .inl o_signs_v)), (o_keptSigns, .inl (cI, 2000, .inl o_keptSigns_v))] U.heap ∧ va_K (dC, dI) classes [(cI, .int)] U ∧ va_D (fun _ => True) [(h0, .inr (6, [.ref o_heap, .ref o_signs, .int o_next, .int o_kept, .ref o_keptSigns, .int o_keptNext, .int o_keptKept, .ref o_text, .int o_length, .ref o_lists, .ref o_nextMembers])), (o_signs, .inl (cI, 2000, .inl o_signs_v)), (o_keptSigns, .inl (cI, 2000, .inl o_keptSigns_v))])) (va_Qv (fun (_ : Unit) => True) (fun (_ : Unit) t => va_P (dC, dI) classes [(h0, .inr (6, [.ref o_heap, .ref o_signs, .int (m_Output_takeBack_w0_2 o_keptNext), .int (m_Output_takeBack_w0_3 o_keptKept), .ref o_keptSigns, .int o_keptNext, .int o_keptKept, .ref o_text, .int o_length, .ref o_lists, .ref o_nextMembers])), (o_signs, .inl (cI, 2000, .inl (m_Output_takeBack_w1 o_signs_v o_keptSigns_v))), (o_keptSigns, .inl (cI, 2000, .inl o_keptSigns_v))] t.heap ∧ va_K (dC, dI) classes [(cI, .int)] t ∧ va_D (va_A [(h0, .inr (6, [.ref o_heap, .ref o_signs, .int o_next, .int o_kept, .ref o_keptSigns, .int o_keptNext, .int o_keptKept, .ref o_text, .int o_length, .ref o_lists, .ref o_nextMembers])), (o_signs, .inl (cI, 2000, .inl o_signs_v)), (o_keptSigns, .inl (cI, 2000, .inl o_keptSigns_v))] sz) [(h0, .inr (6, [.ref o_heap, .ref o_signs, .int (m_Output_takeBack_w0_2 o_keptNext), .int (m_Output_takeBack_w0_3 o_keptKept), .ref o_keptSigns, .int o_keptNext, .int o_keptKept, .ref o_text, .int o_length, .ref o_lists, .ref o_nextMembers])), (o_signs, .inl (cI, 2000, .inl (m_Output_takeBack_w1 o_signs_v o_keptSigns_v))), (o_keptSigns, .inl (cI, 2000, .inl o_keptSigns_v))]) (va_A [(h0, .inr (6, [.ref o_heap, .ref o_signs, .int o_next, .int o_kept, .ref o_keptSigns, .int o_keptNext, .int o_keptKept, .ref o_text, .int o_length, .ref o_lists, .ref o_nextMembers])), (o_signs, .inl (cI, 2000, .inl o_signs_v)), (o_keptSigns, .inl (cI, 2000, .inl o_keptSigns_v))] sz)) 0 0 (va_A [(h0, .inr (6, [.ref o_heap, .ref o_signs, .int o_next, .int o_kept, .ref o_keptSigns, .int o_keptNext, .int o_keptKept, .ref o_text, .int o_length, .ref o_lists, .ref o_nextMembers])), (o_signs, .inl (cI, 2000, .inl o_signs_v)), (o_keptSigns, .inl (cI, 2000, .inl o_keptSigns_v))] sz) := by
  refine Met.ofW (cc := b_Output_takeBack) (maxL := 1) (ret := none) (by decide) rfl ?_
  intro p e s m args below meth c s₁ B hml hv
  obtain ⟨rfl, hsz, hP, hK, hD0⟩ := hv
  have hx := B.exec
  have hb := B.bytes
  have hr := B.returns
  have hts := atoms_spec (ws := w_Output_takeBack) B.pre
  have htt : ∀ w ∈ tw_T, w.before _ s = true := fun w h => hts w (List.mem_cons_of_mem _ h)
  have hown : s.vm.findClass R_Output = some m.cls := findClass_of_methodNamed B.named
  have hlocks := B.notSynchronized
  subst hsz
  have hD := hD0.self (sz := s.heap.size)
  generalize hAe : va_A [(h0, .inr (6, [.ref o_heap, .ref o_signs, .int o_next, .int o_kept, .ref o_keptSigns, .int o_keptNext, .int o_keptKept, .ref o_text, .int o_length, .ref o_lists, .ref o_nextMembers])), (o_signs, .inl (cI, 2000, .inl o_signs_v)), (o_keptSigns, .inl (cI, 2000, .inl o_keptSigns_v))] s.heap.size = A at hD ⊢
  have hA : ∀ q : Nat, s.heap.size ≤ q → A q := fun q h => by rw [← hAe]; exact Or.inr h
  have hS : va_S A s.heap s.heap [] := va_S.rf
  have hP : va_P (dC, dI) classes [(h0, .inr (6, [.ref o_heap, .ref o_signs, .int o_next, .int o_kept, .ref o_keptSigns, .int o_keptNext, .int o_keptKept, .ref o_text, .int o_length, .ref o_lists, .ref o_nextMembers])), (o_signs, .inl (cI, 2000, .inl o_signs_v)), (o_keptSigns, .inl (cI, 2000, .inl o_keptSigns_v))] s.heap := hP
  have hl := lv_entry ([.ref h0]) (n := 1) (Nat.le_of_ble_eq_true rfl)
  rw [lg_entry_eq]
  generalize (lg_sl ([.ref h0]) ++ List.replicate (1 - (lg_sl ([.ref h0])).length) Slot.unset).toArray = ls at hl ⊢
  have hl : lv_has ls 1 [(0, .ref h0)] := hl
  refine lv_aload_n hx hb d_Output_takeBack_0 rfl (lv_at hl 0 rfl) ?_
  refine va_get (D := (dC, dI)) (ci := 6) (v := .ref o_keptSigns) (C := R_Output) (T := F_Output) (N := 11) hx hb htt iw_Output hown hK hP 0 rfl rfl 4 (by decide) (htt _ lk_Output_15) (fun _ h9 => h9) rfl d_Output_takeBack_1 ?_
  refine lv_iconst (v := 0) hx hb d_Output_takeBack_4 (by decide) ?_
  refine lv_aload_n hx hb d_Output_takeBack_5 rfl (lv_at hl 0 rfl) ?_
  refine va_get (D := (dC, dI)) (ci := 6) (v := .ref o_signs) (C := R_Output) (T := F_Output) (N := 11) hx hb htt iw_Output hown hK hP 0 rfl rfl 1 (by decide) (htt _ lk_Output_11) (fun _ h9 => h9) rfl d_Output_takeBack_6 ?_
  refine lv_iconst (v := 0) hx hb d_Output_takeBack_9 (by decide) ?_
  refine lv_sipush (v := 2000) hx hb d_Output_takeBack_10 (by decide) ?_
  refine va_copyi hx hb (by rw [hml]; exact hl.1.symm) hown (htt _ lk_Output_75) (htt _ na_arraycopy) (htt _ st_arraycopy) (htt _ ini_System) hK hP hD hS 2 1 0 0 (ty := .int) (sp := 0) (dp := 0) (n := 2000) rfl rfl rfl rfl rfl (by decide) (by decide) (by decide) (by decide) (by decide) (fun _ _ => rfl) (Nat.le_of_ble_eq_true rfl) (Nat.le_of_ble_eq_true rfl) d_Output_takeBack_13 (fun H locs hP hD hS => ?_)
  have hP : va_P (dC, dI) classes [(h0, .inr (6, [.ref o_heap, .ref o_signs, .int o_next, .int o_kept, .ref o_keptSigns, .int o_keptNext, .int o_keptKept, .ref o_text, .int o_length, .ref o_lists, .ref o_nextMembers])), (o_signs, .inl (cI, 2000, .inl (va_cpy o_keptSigns_v o_signs_v (0 : Int32).toNatClampNeg (0 : Int32).toNatClampNeg (2000 : Int32).toNatClampNeg))), (o_keptSigns, .inl (cI, 2000, .inl o_keptSigns_v))] H := hP
  have hD : va_D A [(h0, .inr (6, [.ref o_heap, .ref o_signs, .int o_next, .int o_kept, .ref o_keptSigns, .int o_keptNext, .int o_keptKept, .ref o_text, .int o_length, .ref o_lists, .ref o_nextMembers])), (o_signs, .inl (cI, 2000, .inl (va_cpy o_keptSigns_v o_signs_v (0 : Int32).toNatClampNeg (0 : Int32).toNatClampNeg (2000 : Int32).toNatClampNeg))), (o_keptSigns, .inl (cI, 2000, .inl o_keptSigns_v))] := hD
  refine lv_aload_n hx hb d_Output_takeBack_16 rfl (lv_at hl 0 rfl) ?_
  refine lv_aload_n hx hb d_Output_takeBack_17 rfl (lv_at hl 0 rfl) ?_
  refine va_get (D := (dC, dI)) (ci := 6) (v := .int o_keptNext) (C := R_Output) (T := F_Output) (N := 11) hx hb htt iw_Output hown hK hP 0 rfl rfl 5 (by decide) (htt _ lk_Output_81) (fun _ h9 => h9) rfl d_Output_takeBack_18 ?_
  refine va_put (D := (dC, dI)) (ci := 6) (v := .int o_keptNext) (ty := .int) (C := R_Output) (T := F_Output) (N := 11) hx hb htt iw_Output t_Output t_Output_ok n_Output hown hK hP hD hS 0 rfl rfl 2 (by decide) (htt _ lk_Output_61) (fun _ h9 => h9) rfl (by decide +kernel) rfl rfl (Nat.le_of_ble_eq_true rfl) d_Output_takeBack_21 (fun H locs hP hD hS => ?_)
  have hP : va_P (dC, dI) classes [(h0, .inr (6, [.ref o_heap, .ref o_signs, .int o_keptNext, .int o_kept, .ref o_keptSigns, .int o_keptNext, .int o_keptKept, .ref o_text, .int o_length, .ref o_lists, .ref o_nextMembers])), (o_signs, .inl (cI, 2000, .inl (va_cpy o_keptSigns_v o_signs_v (0 : Int32).toNatClampNeg (0 : Int32).toNatClampNeg (2000 : Int32).toNatClampNeg))), (o_keptSigns, .inl (cI, 2000, .inl o_keptSigns_v))] H := hP
  have hD : va_D A [(h0, .inr (6, [.ref o_heap, .ref o_signs, .int o_keptNext, .int o_kept, .ref o_keptSigns, .int o_keptNext, .int o_keptKept, .ref o_text, .int o_length, .ref o_lists, .ref o_nextMembers])), (o_signs, .inl (cI, 2000, .inl (va_cpy o_keptSigns_v o_signs_v (0 : Int32).toNatClampNeg (0 : Int32).toNatClampNeg (2000 : Int32).toNatClampNeg))), (o_keptSigns, .inl (cI, 2000, .inl o_keptSigns_v))] := hD
  refine lv_aload_n hx hb d_Output_takeBack_24 rfl (lv_at hl 0 rfl) ?_
  refine lv_aload_n hx hb d_Output_takeBack_25 rfl (lv_at hl 0 rfl) ?_
  refine va_get (D := (dC, dI)) (ci := 6) (v := .int o_keptKept) (C := R_Output) (T := F_Output) (N := 11) hx hb htt iw_Output hown hK hP 0 rfl rfl 6 (by decide) (htt _ lk_Output_84) (fun _ h9 => h9) rfl d_Output_takeBack_26 ?_
  refine va_put (D := (dC, dI)) (ci := 6) (v := .int o_keptKept) (ty := .int) (C := R_Output) (T := F_Output) (N := 11) hx hb htt iw_Output t_Output t_Output_ok n_Output hown hK hP hD hS 0 rfl rfl 3 (by decide) (htt _ lk_Output_64) (fun _ h9 => h9) rfl (by decide +kernel) rfl rfl (Nat.le_of_ble_eq_true rfl) d_Output_takeBack_29 (fun H locs hP hD hS => ?_)
  have hP : va_P (dC, dI) classes [(h0, .inr (6, [.ref o_heap, .ref o_signs, .int o_keptNext, .int o_keptKept, .ref o_keptSigns, .int o_keptNext, .int o_keptKept, .ref o_text, .int o_length, .ref o_lists, .ref o_nextMembers])), (o_signs, .inl (cI, 2000, .inl (va_cpy o_keptSigns_v o_signs_v (0 : Int32).toNatClampNeg (0 : Int32).toNatClampNeg (2000 : Int32).toNatClampNeg))), (o_keptSigns, .inl (cI, 2000, .inl o_keptSigns_v))] H := hP
  have hD : va_D A [(h0, .inr (6, [.ref o_heap, .ref o_signs, .int o_keptNext, .int o_keptKept, .ref o_keptSigns, .int o_keptNext, .int o_keptKept, .ref o_text, .int o_length, .ref o_lists, .ref o_nextMembers])), (o_signs, .inl (cI, 2000, .inl (va_cpy o_keptSigns_v o_signs_v (0 : Int32).toNatClampNeg (0 : Int32).toNatClampNeg (2000 : Int32).toNatClampNeg))), (o_keptSigns, .inl (cI, 2000, .inl o_keptSigns_v))] := hD
  have hP9 := hP.sub (ws' := [(h0, .inr (6, [.ref o_heap, .ref o_signs, .int o_keptNext, .int o_keptKept, .ref o_keptSigns, .int o_keptNext, .int o_keptKept, .ref o_text, .int o_length, .ref o_lists, .ref o_nextMembers])), (o_signs, .inl (cI, 2000, .inl (va_cpy o_keptSigns_v o_signs_v (0 : Int32).toNatClampNeg (0 : Int32).toNatClampNeg (2000 : Int32).toNatClampNeg))), (o_keptSigns, .inl (cI, 2000, .inl o_keptSigns_v))]) [0, 1, 2] rfl
  have hD9 := hD.sub (ws' := [(h0, .inr (6, [.ref o_heap, .ref o_signs, .int o_keptNext, .int o_keptKept, .ref o_keptSigns, .int o_keptNext, .int o_keptKept, .ref o_text, .int o_length, .ref o_lists, .ref o_nextMembers])), (o_signs, .inl (cI, 2000, .inl (va_cpy o_keptSigns_v o_signs_v (0 : Int32).toNatClampNeg (0 : Int32).toNatClampNeg (2000 : Int32).toNatClampNeg))), (o_keptSigns, .inl (cI, 2000, .inl o_keptSigns_v))]) [0, 1, 2] (by decide) rfl
  have eW : [(h0, .inr (6, [.ref o_heap, .ref o_signs, .int o_keptNext, .int o_keptKept, .ref o_keptSigns, .int o_keptNext, .int o_keptKept, .ref o_text, .int o_length, .ref o_lists, .ref o_nextMembers])), (o_signs, .inl (cI, 2000, .inl (va_cpy o_keptSigns_v o_signs_v (0 : Int32).toNatClampNeg (0 : Int32).toNatClampNeg (2000 : Int32).toNatClampNeg))), (o_keptSigns, .inl (cI, 2000, .inl o_keptSigns_v))] = ([(h0, .inr (6, [.ref o_heap, .ref o_signs, .int (m_Output_takeBack_w0_2 o_keptNext), .int (m_Output_takeBack_w0_3 o_keptKept), .ref o_keptSigns, .int o_keptNext, .int o_keptKept, .ref o_text, .int o_length, .ref o_lists, .ref o_nextMembers])), (o_signs, .inl (cI, 2000, .inl (m_Output_takeBack_w1 o_signs_v o_keptSigns_v))), (o_keptSigns, .inl (cI, 2000, .inl o_keptSigns_v))] : va_W) := by unfold m_Output_takeBack_w0_2 m_Output_takeBack_w0_3 m_Output_takeBack_w1; rfl
  rw [eW] at hP9 hD9
  exact W.vret hx hb hr (fun t9 ht hW => ⟨⟨(), rfl, trivial, by rw [ht]; exact hP9, va_K.moved hW.alike hK, hD9⟩, hS.F ht⟩) hS.2.2 d_Output_takeBack_32

def m_Line_begin_w0_1  : Int32 := 1
def m_Line_begin_w0_2  : Int32 := 0
def m_Line_begin_w0_3  : Int32 := 0
def m_Line_begin_w0_4  : Int32 := 0
def m_Line_begin_w0_5  : Int32 := 0
def m_Line_begin_w0_6  : Int32 := 0
def m_Line_begin_w0_7  : Int32 := 0
set_option maxHeartbeats 4000000 in
set_option maxRecDepth 100000 in
theorem c_Line_begin (l : Launch) (dC : Nat → ClassId) (dI : Nat → Nat → Nat) (sz : Nat) (h0 : Nat) (l_heap : Nat) (l_state : Int32) (l_error : Int32) (l_done : Int32) (l_made : Int32) (l_caught : Int32) (l_depth : Int32) (l_calls : Int32) (l_kind : Nat) (l_list : Nat) (l_next : Nat) (l_turns : Nat) (l_limit : Nat) (l_other : Nat) (l_mark : Nat) (l_waits : Nat) (l_values : Nat) (l_locals : Nat) (cI : ClassId)  : Met l y_Line_begin w_Line_begin ({ frames := 0, cells := 0, slots := 0, locals := 0 }) (va_Pc [.ref h0] (fun U => U.heap.size = sz ∧ va_P (dC, dI) classes [(h0, .inr (8, [.ref l_heap, .int l_state, .int l_error, .int l_done, .int l_made, .int l_caught, .int l_depth, .int l_calls, .ref l_kind, .ref l_list, .ref l_next, .ref l_turns, .ref l_limit, .ref l_other, .ref l_mark, .ref l_waits, .ref l_values, .ref l_locals]))] U.heap ∧ va_K (dC, dI) classes [(cI, .int)] U ∧ va_D (fun _ => True) [(h0, .inr (8, [.ref l_heap, .int l_state, .int l_error, .int l_done, .int l_made, .int l_caught, .int l_depth, .int l_calls, .ref l_kind, .ref l_list, .ref l_next, .ref l_turns, .ref l_limit, .ref l_other, .ref l_mark, .ref l_waits, .ref l_values, .ref l_locals]))])) (va_Qv (fun (_ : Unit) => True) (fun (_ : Unit) t => va_P (dC, dI) classes [(h0, .inr (8, [.ref l_heap, .int m_Line_begin_w0_1, .int m_Line_begin_w0_2, .int m_Line_begin_w0_3, .int m_Line_begin_w0_4, .int m_Line_begin_w0_5, .int m_Line_begin_w0_6, .int m_Line_begin_w0_7, .ref l_kind, .ref l_list, .ref l_next, .ref l_turns, .ref l_limit, .ref l_other, .ref l_mark, .ref l_waits, .ref l_values, .ref l_locals]))] t.heap ∧ va_K (dC, dI) classes [(cI, .int)] t ∧ va_D (va_A [(h0, .inr (8, [.ref l_heap, .int l_state, .int l_error, .int l_done, .int l_made, .int l_caught, .int l_depth, .int l_calls, .ref l_kind, .ref l_list, .ref l_next, .ref l_turns, .ref l_limit, .ref l_other, .ref l_mark, .ref l_waits, .ref l_values, .ref l_locals]))] sz) [(h0, .inr (8, [.ref l_heap, .int m_Line_begin_w0_1, .int m_Line_begin_w0_2, .int m_Line_begin_w0_3, .int m_Line_begin_w0_4, .int m_Line_begin_w0_5, .int m_Line_begin_w0_6, .int m_Line_begin_w0_7, .ref l_kind, .ref l_list, .ref l_next, .ref l_turns, .ref l_limit, .ref l_other, .ref l_mark, .ref l_waits, .ref l_values, .ref l_locals]))]) (va_A [(h0, .inr (8, [.ref l_heap, .int l_state, .int l_error, .int l_done, .int l_made, .int l_caught, .int l_depth, .int l_calls, .ref l_kind, .ref l_list, .ref l_next, .ref l_turns, .ref l_limit, .ref l_other, .ref l_mark, .ref l_waits, .ref l_values, .ref l_locals]))] sz)) 0 0 (va_A [(h0, .inr (8, [.ref l_heap, .int l_state, .int l_error, .int l_done, .int l_made, .int l_caught, .int l_depth, .int l_calls, .ref l_kind, .ref l_list, .ref l_next, .ref l_turns, .ref l_limit, .ref l_other, .ref l_mark, .ref l_waits, .ref l_values, .ref l_locals]))] sz) := by
  refine Met.ofW (cc := b_Line_begin) (maxL := 1) (ret := none) (by decide) rfl ?_
  intro p e s m args below meth c s₁ B hml hv
  obtain ⟨rfl, hsz, hP, hK, hD0⟩ := hv
  have hx := B.exec
  have hb := B.bytes
  have hr := B.returns
  have hts := atoms_spec (ws := w_Line_begin) B.pre
  have htt : ∀ w ∈ tw_T, w.before _ s = true := fun w h => hts w (List.mem_cons_of_mem _ h)
  have hown : s.vm.findClass R_Line = some m.cls := findClass_of_methodNamed B.named
  have hlocks := B.notSynchronized
  subst hsz
  have hD := hD0.self (sz := s.heap.size)
  generalize hAe : va_A [(h0, .inr (8, [.ref l_heap, .int l_state, .int l_error, .int l_done, .int l_made, .int l_caught, .int l_depth, .int l_calls, .ref l_kind, .ref l_list, .ref l_next, .ref l_turns, .ref l_limit, .ref l_other, .ref l_mark, .ref l_waits, .ref l_values, .ref l_locals]))] s.heap.size = A at hD ⊢
  have hA : ∀ q : Nat, s.heap.size ≤ q → A q := fun q h => by rw [← hAe]; exact Or.inr h
  have hS : va_S A s.heap s.heap [] := va_S.rf
  have hP : va_P (dC, dI) classes [(h0, .inr (8, [.ref l_heap, .int l_state, .int l_error, .int l_done, .int l_made, .int l_caught, .int l_depth, .int l_calls, .ref l_kind, .ref l_list, .ref l_next, .ref l_turns, .ref l_limit, .ref l_other, .ref l_mark, .ref l_waits, .ref l_values, .ref l_locals]))] s.heap := hP
  have hl := lv_entry ([.ref h0]) (n := 1) (Nat.le_of_ble_eq_true rfl)
  rw [lg_entry_eq]
  generalize (lg_sl ([.ref h0]) ++ List.replicate (1 - (lg_sl ([.ref h0])).length) Slot.unset).toArray = ls at hl ⊢
  have hl : lv_has ls 1 [(0, .ref h0)] := hl
  refine lv_aload_n hx hb d_Line_begin_0 rfl (lv_at hl 0 rfl) ?_
  refine lv_iconst (v := 1) hx hb d_Line_begin_1 (by decide) ?_
  refine va_put (D := (dC, dI)) (ci := 8) (v := .int 1) (ty := .int) (C := R_Line) (T := F_Line) (N := 18) hx hb htt iw_Line t_Line t_Line_ok n_Line hown hK hP hD hS 0 rfl rfl 1 (by decide) (htt _ lk_Line_46) (fun _ h9 => h9) rfl (by decide +kernel) rfl rfl (Nat.le_of_ble_eq_true rfl) d_Line_begin_2 (fun H locs hP hD hS => ?_)
  have hP : va_P (dC, dI) classes [(h0, .inr (8, [.ref l_heap, .int 1, .int l_error, .int l_done, .int l_made, .int l_caught, .int l_depth, .int l_calls, .ref l_kind, .ref l_list, .ref l_next, .ref l_turns, .ref l_limit, .ref l_other, .ref l_mark, .ref l_waits, .ref l_values, .ref l_locals]))] H := hP
  have hD : va_D A [(h0, .inr (8, [.ref l_heap, .int 1, .int l_error, .int l_done, .int l_made, .int l_caught, .int l_depth, .int l_calls, .ref l_kind, .ref l_list, .ref l_next, .ref l_turns, .ref l_limit, .ref l_other, .ref l_mark, .ref l_waits, .ref l_values, .ref l_locals]))] := hD
  refine lv_aload_n hx hb d_Line_begin_5 rfl (lv_at hl 0 rfl) ?_
  refine lv_iconst (v := 0) hx hb d_Line_begin_6 (by decide) ?_
  refine va_put (D := (dC, dI)) (ci := 8) (v := .int 0) (ty := .int) (C := R_Line) (T := F_Line) (N := 18) hx hb htt iw_Line t_Line t_Line_ok n_Line hown hK hP hD hS 0 rfl rfl 2 (by decide) (htt _ lk_Line_50) (fun _ h9 => h9) rfl (by decide +kernel) rfl rfl (Nat.le_of_ble_eq_true rfl) d_Line_begin_7 (fun H locs hP hD hS => ?_)
  have hP : va_P (dC, dI) classes [(h0, .inr (8, [.ref l_heap, .int 1, .int 0, .int l_done, .int l_made, .int l_caught, .int l_depth, .int l_calls, .ref l_kind, .ref l_list, .ref l_next, .ref l_turns, .ref l_limit, .ref l_other, .ref l_mark, .ref l_waits, .ref l_values, .ref l_locals]))] H := hP
  have hD : va_D A [(h0, .inr (8, [.ref l_heap, .int 1, .int 0, .int l_done, .int l_made, .int l_caught, .int l_depth, .int l_calls, .ref l_kind, .ref l_list, .ref l_next, .ref l_turns, .ref l_limit, .ref l_other, .ref l_mark, .ref l_waits, .ref l_values, .ref l_locals]))] := hD
  refine lv_aload_n hx hb d_Line_begin_10 rfl (lv_at hl 0 rfl) ?_
  refine lv_iconst (v := 0) hx hb d_Line_begin_11 (by decide) ?_
  refine va_put (D := (dC, dI)) (ci := 8) (v := .int 0) (ty := .int) (C := R_Line) (T := F_Line) (N := 18) hx hb htt iw_Line t_Line t_Line_ok n_Line hown hK hP hD hS 0 rfl rfl 3 (by decide) (htt _ lk_Line_53) (fun _ h9 => h9) rfl (by decide +kernel) rfl rfl (Nat.le_of_ble_eq_true rfl) d_Line_begin_12 (fun H locs hP hD hS => ?_)
  have hP : va_P (dC, dI) classes [(h0, .inr (8, [.ref l_heap, .int 1, .int 0, .int 0, .int l_made, .int l_caught, .int l_depth, .int l_calls, .ref l_kind, .ref l_list, .ref l_next, .ref l_turns, .ref l_limit, .ref l_other, .ref l_mark, .ref l_waits, .ref l_values, .ref l_locals]))] H := hP
  have hD : va_D A [(h0, .inr (8, [.ref l_heap, .int 1, .int 0, .int 0, .int l_made, .int l_caught, .int l_depth, .int l_calls, .ref l_kind, .ref l_list, .ref l_next, .ref l_turns, .ref l_limit, .ref l_other, .ref l_mark, .ref l_waits, .ref l_values, .ref l_locals]))] := hD
  refine lv_aload_n hx hb d_Line_begin_15 rfl (lv_at hl 0 rfl) ?_
  refine lv_iconst (v := 0) hx hb d_Line_begin_16 (by decide) ?_
  refine va_put (D := (dC, dI)) (ci := 8) (v := .int 0) (ty := .int) (C := R_Line) (T := F_Line) (N := 18) hx hb htt iw_Line t_Line t_Line_ok n_Line hown hK hP hD hS 0 rfl rfl 4 (by decide) (htt _ lk_Line_56) (fun _ h9 => h9) rfl (by decide +kernel) rfl rfl (Nat.le_of_ble_eq_true rfl) d_Line_begin_17 (fun H locs hP hD hS => ?_)
  have hP : va_P (dC, dI) classes [(h0, .inr (8, [.ref l_heap, .int 1, .int 0, .int 0, .int 0, .int l_caught, .int l_depth, .int l_calls, .ref l_kind, .ref l_list, .ref l_next, .ref l_turns, .ref l_limit, .ref l_other, .ref l_mark, .ref l_waits, .ref l_values, .ref l_locals]))] H := hP
  have hD : va_D A [(h0, .inr (8, [.ref l_heap, .int 1, .int 0, .int 0, .int 0, .int l_caught, .int l_depth, .int l_calls, .ref l_kind, .ref l_list, .ref l_next, .ref l_turns, .ref l_limit, .ref l_other, .ref l_mark, .ref l_waits, .ref l_values, .ref l_locals]))] := hD
  refine lv_aload_n hx hb d_Line_begin_20 rfl (lv_at hl 0 rfl) ?_
  refine lv_iconst (v := 0) hx hb d_Line_begin_21 (by decide) ?_
  refine va_put (D := (dC, dI)) (ci := 8) (v := .int 0) (ty := .int) (C := R_Line) (T := F_Line) (N := 18) hx hb htt iw_Line t_Line t_Line_ok n_Line hown hK hP hD hS 0 rfl rfl 5 (by decide) (htt _ lk_Line_59) (fun _ h9 => h9) rfl (by decide +kernel) rfl rfl (Nat.le_of_ble_eq_true rfl) d_Line_begin_22 (fun H locs hP hD hS => ?_)
  have hP : va_P (dC, dI) classes [(h0, .inr (8, [.ref l_heap, .int 1, .int 0, .int 0, .int 0, .int 0, .int l_depth, .int l_calls, .ref l_kind, .ref l_list, .ref l_next, .ref l_turns, .ref l_limit, .ref l_other, .ref l_mark, .ref l_waits, .ref l_values, .ref l_locals]))] H := hP
  have hD : va_D A [(h0, .inr (8, [.ref l_heap, .int 1, .int 0, .int 0, .int 0, .int 0, .int l_depth, .int l_calls, .ref l_kind, .ref l_list, .ref l_next, .ref l_turns, .ref l_limit, .ref l_other, .ref l_mark, .ref l_waits, .ref l_values, .ref l_locals]))] := hD
  refine lv_aload_n hx hb d_Line_begin_25 rfl (lv_at hl 0 rfl) ?_
  refine lv_iconst (v := 0) hx hb d_Line_begin_26 (by decide) ?_
  refine va_put (D := (dC, dI)) (ci := 8) (v := .int 0) (ty := .int) (C := R_Line) (T := F_Line) (N := 18) hx hb htt iw_Line t_Line t_Line_ok n_Line hown hK hP hD hS 0 rfl rfl 6 (by decide) (htt _ lk_Line_62) (fun _ h9 => h9) rfl (by decide +kernel) rfl rfl (Nat.le_of_ble_eq_true rfl) d_Line_begin_27 (fun H locs hP hD hS => ?_)
  have hP : va_P (dC, dI) classes [(h0, .inr (8, [.ref l_heap, .int 1, .int 0, .int 0, .int 0, .int 0, .int 0, .int l_calls, .ref l_kind, .ref l_list, .ref l_next, .ref l_turns, .ref l_limit, .ref l_other, .ref l_mark, .ref l_waits, .ref l_values, .ref l_locals]))] H := hP
  have hD : va_D A [(h0, .inr (8, [.ref l_heap, .int 1, .int 0, .int 0, .int 0, .int 0, .int 0, .int l_calls, .ref l_kind, .ref l_list, .ref l_next, .ref l_turns, .ref l_limit, .ref l_other, .ref l_mark, .ref l_waits, .ref l_values, .ref l_locals]))] := hD
  refine lv_aload_n hx hb d_Line_begin_30 rfl (lv_at hl 0 rfl) ?_
  refine lv_iconst (v := 0) hx hb d_Line_begin_31 (by decide) ?_
  refine va_put (D := (dC, dI)) (ci := 8) (v := .int 0) (ty := .int) (C := R_Line) (T := F_Line) (N := 18) hx hb htt iw_Line t_Line t_Line_ok n_Line hown hK hP hD hS 0 rfl rfl 7 (by decide) (htt _ lk_Line_65) (fun _ h9 => h9) rfl (by decide +kernel) rfl rfl (Nat.le_of_ble_eq_true rfl) d_Line_begin_32 (fun H locs hP hD hS => ?_)
  have hP : va_P (dC, dI) classes [(h0, .inr (8, [.ref l_heap, .int 1, .int 0, .int 0, .int 0, .int 0, .int 0, .int 0, .ref l_kind, .ref l_list, .ref l_next, .ref l_turns, .ref l_limit, .ref l_other, .ref l_mark, .ref l_waits, .ref l_values, .ref l_locals]))] H := hP
  have hD : va_D A [(h0, .inr (8, [.ref l_heap, .int 1, .int 0, .int 0, .int 0, .int 0, .int 0, .int 0, .ref l_kind, .ref l_list, .ref l_next, .ref l_turns, .ref l_limit, .ref l_other, .ref l_mark, .ref l_waits, .ref l_values, .ref l_locals]))] := hD
  have hP9 := hP.sub (ws' := [(h0, .inr (8, [.ref l_heap, .int 1, .int 0, .int 0, .int 0, .int 0, .int 0, .int 0, .ref l_kind, .ref l_list, .ref l_next, .ref l_turns, .ref l_limit, .ref l_other, .ref l_mark, .ref l_waits, .ref l_values, .ref l_locals]))]) [0] rfl
  have hD9 := hD.sub (ws' := [(h0, .inr (8, [.ref l_heap, .int 1, .int 0, .int 0, .int 0, .int 0, .int 0, .int 0, .ref l_kind, .ref l_list, .ref l_next, .ref l_turns, .ref l_limit, .ref l_other, .ref l_mark, .ref l_waits, .ref l_values, .ref l_locals]))]) [0] (by decide) rfl
  have eW : [(h0, .inr (8, [.ref l_heap, .int 1, .int 0, .int 0, .int 0, .int 0, .int 0, .int 0, .ref l_kind, .ref l_list, .ref l_next, .ref l_turns, .ref l_limit, .ref l_other, .ref l_mark, .ref l_waits, .ref l_values, .ref l_locals]))] = ([(h0, .inr (8, [.ref l_heap, .int m_Line_begin_w0_1, .int m_Line_begin_w0_2, .int m_Line_begin_w0_3, .int m_Line_begin_w0_4, .int m_Line_begin_w0_5, .int m_Line_begin_w0_6, .int m_Line_begin_w0_7, .ref l_kind, .ref l_list, .ref l_next, .ref l_turns, .ref l_limit, .ref l_other, .ref l_mark, .ref l_waits, .ref l_values, .ref l_locals]))] : va_W) := by unfold m_Line_begin_w0_1 m_Line_begin_w0_2 m_Line_begin_w0_3 m_Line_begin_w0_4 m_Line_begin_w0_5 m_Line_begin_w0_6 m_Line_begin_w0_7; rfl
  rw [eW] at hP9 hD9
  exact W.vret hx hb hr (fun t9 ht hW => ⟨⟨(), rfl, trivial, by rw [ht]; exact hP9, va_K.moved hW.alike hK, hD9⟩, hS.F ht⟩) hS.2.2 d_Line_begin_35
