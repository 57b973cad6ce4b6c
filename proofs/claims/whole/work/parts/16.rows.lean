theorem d_Waiting_begin_0 : decode b_Waiting_begin 0 = .ok (.aload_n 0, 1) := by decide +kernel
theorem d_Waiting_begin_1 : decode b_Waiting_begin 1 = .ok (.iconst 0, 1) := by decide +kernel
theorem d_Waiting_begin_2 : decode b_Waiting_begin 2 = .ok (.putfield 36, 3) := by decide +kernel
theorem d_Waiting_begin_5 : decode b_Waiting_begin 5 = .ok (.aload_n 0, 1) := by decide +kernel
theorem d_Waiting_begin_6 : decode b_Waiting_begin 6 = .ok (.iconst 0, 1) := by decide +kernel
theorem d_Waiting_begin_7 : decode b_Waiting_begin 7 = .ok (.putfield 40, 3) := by decide +kernel
theorem d_Waiting_begin_10 : decode b_Waiting_begin 10 = .ok (.aload_n 0, 1) := by decide +kernel
theorem d_Waiting_begin_11 : decode b_Waiting_begin 11 = .ok (.iconst 0, 1) := by decide +kernel
theorem d_Waiting_begin_12 : decode b_Waiting_begin 12 = .ok (.putfield 43, 3) := by decide +kernel
theorem d_Waiting_begin_15 : decode b_Waiting_begin 15 = .ok (.return_, 1) := by decide +kernel
theorem lk_Waiting_36 : Cond.fieldLink "TurtleWorld$Waiting" 36 "TurtleWorld$Waiting" "count" "I" ∈ tw_T := tw_i3 95 (by decide +kernel) (by decide +kernel)
theorem lk_Waiting_40 : Cond.fieldLink "TurtleWorld$Waiting" 40 "TurtleWorld$Waiting" "height" "I" ∈ tw_T := tw_i3 100 (by decide +kernel) (by decide +kernel)
theorem lk_Waiting_43 : Cond.fieldLink "TurtleWorld$Waiting" 43 "TurtleWorld$Waiting" "ready" "I" ∈ tw_T := tw_i3 103 (by decide +kernel) (by decide +kernel)
theorem d_Waiting_meet_0 : decode b_Waiting_meet 0 = .ok (.aload_n 0, 1) := by decide +kernel
theorem d_Waiting_meet_1 : decode b_Waiting_meet 1 = .ok (.getfield 36, 3) := by decide +kernel
theorem d_Waiting_meet_4 : decode b_Waiting_meet 4 = .ok (.sipush 400, 3) := by decide +kernel
theorem d_Waiting_meet_7 : decode b_Waiting_meet 7 = .ok (.if_icmp .gt 57, 3) := by decide +kernel
theorem d_Waiting_meet_10 : decode b_Waiting_meet 10 = .ok (.aload_n 0, 1) := by decide +kernel
theorem d_Waiting_meet_11 : decode b_Waiting_meet 11 = .ok (.getfield 9, 3) := by decide +kernel
theorem d_Waiting_meet_14 : decode b_Waiting_meet 14 = .ok (.aload_n 0, 1) := by decide +kernel
theorem d_Waiting_meet_15 : decode b_Waiting_meet 15 = .ok (.getfield 36, 3) := by decide +kernel
theorem d_Waiting_meet_18 : decode b_Waiting_meet 18 = .ok (.iload_n 1, 1) := by decide +kernel
theorem d_Waiting_meet_19 : decode b_Waiting_meet 19 = .ok (.iastore, 1) := by decide +kernel
theorem d_Waiting_meet_20 : decode b_Waiting_meet 20 = .ok (.aload_n 0, 1) := by decide +kernel
theorem d_Waiting_meet_21 : decode b_Waiting_meet 21 = .ok (.getfield 15, 3) := by decide +kernel
theorem d_Waiting_meet_24 : decode b_Waiting_meet 24 = .ok (.aload_n 0, 1) := by decide +kernel
theorem d_Waiting_meet_25 : decode b_Waiting_meet 25 = .ok (.getfield 36, 3) := by decide +kernel
theorem d_Waiting_meet_28 : decode b_Waiting_meet 28 = .ok (.iload_n 2, 1) := by decide +kernel
theorem d_Waiting_meet_29 : decode b_Waiting_meet 29 = .ok (.iastore, 1) := by decide +kernel
theorem d_Waiting_meet_30 : decode b_Waiting_meet 30 = .ok (.aload_n 0, 1) := by decide +kernel
theorem d_Waiting_meet_31 : decode b_Waiting_meet 31 = .ok (.getfield 18, 3) := by decide +kernel
theorem d_Waiting_meet_34 : decode b_Waiting_meet 34 = .ok (.aload_n 0, 1) := by decide +kernel
theorem d_Waiting_meet_35 : decode b_Waiting_meet 35 = .ok (.getfield 36, 3) := by decide +kernel
theorem d_Waiting_meet_38 : decode b_Waiting_meet 38 = .ok (.iload_n 3, 1) := by decide +kernel
theorem d_Waiting_meet_39 : decode b_Waiting_meet 39 = .ok (.iastore, 1) := by decide +kernel
theorem d_Waiting_meet_40 : decode b_Waiting_meet 40 = .ok (.aload_n 0, 1) := by decide +kernel
theorem d_Waiting_meet_41 : decode b_Waiting_meet 41 = .ok (.getfield 21, 3) := by decide +kernel
theorem d_Waiting_meet_44 : decode b_Waiting_meet 44 = .ok (.aload_n 0, 1) := by decide +kernel
theorem d_Waiting_meet_45 : decode b_Waiting_meet 45 = .ok (.getfield 36, 3) := by decide +kernel
theorem d_Waiting_meet_48 : decode b_Waiting_meet 48 = .ok (.iload 4, 2) := by decide +kernel
theorem d_Waiting_meet_50 : decode b_Waiting_meet 50 = .ok (.iastore, 1) := by decide +kernel
theorem d_Waiting_meet_51 : decode b_Waiting_meet 51 = .ok (.aload_n 0, 1) := by decide +kernel
theorem d_Waiting_meet_52 : decode b_Waiting_meet 52 = .ok (.getfield 24, 3) := by decide +kernel
theorem d_Waiting_meet_55 : decode b_Waiting_meet 55 = .ok (.aload_n 0, 1) := by decide +kernel
theorem d_Waiting_meet_56 : decode b_Waiting_meet 56 = .ok (.getfield 36, 3) := by decide +kernel
theorem d_Waiting_meet_59 : decode b_Waiting_meet 59 = .ok (.aload_n 0, 1) := by decide +kernel
theorem d_Waiting_meet_60 : decode b_Waiting_meet 60 = .ok (.getfield 40, 3) := by decide +kernel
theorem d_Waiting_meet_63 : decode b_Waiting_meet 63 = .ok (.iastore, 1) := by decide +kernel
theorem d_Waiting_meet_64 : decode b_Waiting_meet 64 = .ok (.return_, 1) := by decide +kernel
theorem lk_Waiting_9 : Cond.fieldLink "TurtleWorld$Waiting" 9 "TurtleWorld$Waiting" "kind" "[I" ∈ tw_T := tw_i3 82 (by decide +kernel) (by decide +kernel)
theorem lk_Waiting_15 : Cond.fieldLink "TurtleWorld$Waiting" 15 "TurtleWorld$Waiting" "code" "[I" ∈ tw_T := tw_i3 84 (by decide +kernel) (by decide +kernel)
theorem lk_Waiting_18 : Cond.fieldLink "TurtleWorld$Waiting" 18 "TurtleWorld$Waiting" "need" "[I" ∈ tw_T := tw_i3 86 (by decide +kernel) (by decide +kernel)
theorem lk_Waiting_21 : Cond.fieldLink "TurtleWorld$Waiting" 21 "TurtleWorld$Waiting" "strength" "[I" ∈ tw_T := tw_i3 88 (by decide +kernel) (by decide +kernel)
theorem lk_Waiting_24 : Cond.fieldLink "TurtleWorld$Waiting" 24 "TurtleWorld$Waiting" "base" "[I" ∈ tw_T := tw_i3 90 (by decide +kernel) (by decide +kernel)
theorem d_Waiting_meetCall_0 : decode b_Waiting_meetCall 0 = .ok (.aload_n 0, 1) := by decide +kernel
theorem d_Waiting_meetCall_1 : decode b_Waiting_meetCall 1 = .ok (.getfield 36, 3) := by decide +kernel
theorem d_Waiting_meetCall_4 : decode b_Waiting_meetCall 4 = .ok (.sipush 400, 3) := by decide +kernel
theorem d_Waiting_meetCall_7 : decode b_Waiting_meetCall 7 = .ok (.if_icmp .gt 32, 3) := by decide +kernel
theorem d_Waiting_meetCall_10 : decode b_Waiting_meetCall 10 = .ok (.aload_n 0, 1) := by decide +kernel
theorem d_Waiting_meetCall_11 : decode b_Waiting_meetCall 11 = .ok (.iconst 2, 1) := by decide +kernel
theorem d_Waiting_meetCall_12 : decode b_Waiting_meetCall 12 = .ok (.iload_n 1, 1) := by decide +kernel
theorem d_Waiting_meetCall_13 : decode b_Waiting_meetCall 13 = .ok (.iload 4, 2) := by decide +kernel
theorem d_Waiting_meetCall_15 : decode b_Waiting_meetCall 15 = .ok (.iconst 0, 1) := by decide +kernel
theorem d_Waiting_meetCall_16 : decode b_Waiting_meetCall 16 = .ok (.invokevirtual 46, 3) := by decide +kernel
theorem d_Waiting_meetCall_19 : decode b_Waiting_meetCall 19 = .ok (.aload_n 0, 1) := by decide +kernel
theorem d_Waiting_meetCall_20 : decode b_Waiting_meetCall 20 = .ok (.getfield 27, 3) := by decide +kernel
theorem d_Waiting_meetCall_23 : decode b_Waiting_meetCall 23 = .ok (.aload_n 0, 1) := by decide +kernel
theorem d_Waiting_meetCall_24 : decode b_Waiting_meetCall 24 = .ok (.getfield 36, 3) := by decide +kernel
theorem d_Waiting_meetCall_27 : decode b_Waiting_meetCall 27 = .ok (.iload_n 2, 1) := by decide +kernel
theorem d_Waiting_meetCall_28 : decode b_Waiting_meetCall 28 = .ok (.iastore, 1) := by decide +kernel
theorem d_Waiting_meetCall_29 : decode b_Waiting_meetCall 29 = .ok (.aload_n 0, 1) := by decide +kernel
theorem d_Waiting_meetCall_30 : decode b_Waiting_meetCall 30 = .ok (.getfield 30, 3) := by decide +kernel
theorem d_Waiting_meetCall_33 : decode b_Waiting_meetCall 33 = .ok (.aload_n 0, 1) := by decide +kernel
theorem d_Waiting_meetCall_34 : decode b_Waiting_meetCall 34 = .ok (.getfield 36, 3) := by decide +kernel
theorem d_Waiting_meetCall_37 : decode b_Waiting_meetCall 37 = .ok (.iload_n 3, 1) := by decide +kernel
theorem d_Waiting_meetCall_38 : decode b_Waiting_meetCall 38 = .ok (.iastore, 1) := by decide +kernel
theorem d_Waiting_meetCall_39 : decode b_Waiting_meetCall 39 = .ok (.return_, 1) := by decide +kernel
theorem lk_Waiting_46 : Cond.methodLink "TurtleWorld$Waiting" 46 ⟨"TurtleWorld$Waiting", "meet", "(IIII)V"⟩ ∈ tw_T := tw_i5 86 (by decide +kernel) (by decide +kernel)
theorem in_Waiting_meet : Cond.instanceMethod ⟨"TurtleWorld$Waiting", "meet", "(IIII)V"⟩ ∈ tw_T := tw_i5 87 (by decide +kernel) (by decide +kernel)
theorem sel_Waiting_meet : Cond.selects "TurtleWorld$Waiting" ⟨"TurtleWorld$Waiting", "meet", "(IIII)V"⟩ ⟨"TurtleWorld$Waiting", "meet", "(IIII)V"⟩ ∈ tw_T := tw_i5 88 (by decide +kernel) (by decide +kernel)
theorem ini_Waiting : Cond.initialized "TurtleWorld$Waiting" ∈ tw_T := tw_i1 17 (by decide +kernel) (by decide +kernel)
theorem lk_Waiting_27 : Cond.fieldLink "TurtleWorld$Waiting" 27 "TurtleWorld$Waiting" "inputs" "[I" ∈ tw_T := tw_i3 91 (by decide +kernel) (by decide +kernel)
theorem lk_Waiting_30 : Cond.fieldLink "TurtleWorld$Waiting" 30 "TurtleWorld$Waiting" "body" "[I" ∈ tw_T := tw_i3 93 (by decide +kernel) (by decide +kernel)
theorem d_Waiting_settleLast_0 : decode b_Waiting_settleLast 0 = .ok (.aload_n 0, 1) := by decide +kernel
theorem d_Waiting_settleLast_1 : decode b_Waiting_settleLast 1 = .ok (.getfield 36, 3) := by decide +kernel
theorem d_Waiting_settleLast_4 : decode b_Waiting_settleLast 4 = .ok (.sipush 400, 3) := by decide +kernel
theorem d_Waiting_settleLast_7 : decode b_Waiting_settleLast 7 = .ok (.if_icmp .gt 31, 3) := by decide +kernel
theorem d_Waiting_settleLast_10 : decode b_Waiting_settleLast 10 = .ok (.aload_n 0, 1) := by decide +kernel
theorem d_Waiting_settleLast_11 : decode b_Waiting_settleLast 11 = .ok (.getfield 18, 3) := by decide +kernel
theorem d_Waiting_settleLast_14 : decode b_Waiting_settleLast 14 = .ok (.aload_n 0, 1) := by decide +kernel
theorem d_Waiting_settleLast_15 : decode b_Waiting_settleLast 15 = .ok (.getfield 36, 3) := by decide +kernel
theorem d_Waiting_settleLast_18 : decode b_Waiting_settleLast 18 = .ok (.iaload, 1) := by decide +kernel
theorem d_Waiting_settleLast_19 : decode b_Waiting_settleLast 19 = .ok (.ifCond .ne 19, 3) := by decide +kernel
theorem d_Waiting_settleLast_22 : decode b_Waiting_settleLast 22 = .ok (.aload_n 0, 1) := by decide +kernel
theorem d_Waiting_settleLast_23 : decode b_Waiting_settleLast 23 = .ok (.aload_n 0, 1) := by decide +kernel
theorem d_Waiting_settleLast_24 : decode b_Waiting_settleLast 24 = .ok (.getfield 9, 3) := by decide +kernel
theorem d_Waiting_settleLast_27 : decode b_Waiting_settleLast 27 = .ok (.aload_n 0, 1) := by decide +kernel
theorem d_Waiting_settleLast_28 : decode b_Waiting_settleLast 28 = .ok (.getfield 36, 3) := by decide +kernel
theorem d_Waiting_settleLast_31 : decode b_Waiting_settleLast 31 = .ok (.iaload, 1) := by decide +kernel
theorem d_Waiting_settleLast_32 : decode b_Waiting_settleLast 32 = .ok (.putfield 43, 3) := by decide +kernel
theorem d_Waiting_settleLast_35 : decode b_Waiting_settleLast 35 = .ok (.ldc 50, 2) := by decide +kernel
theorem d_Waiting_settleLast_37 : decode b_Waiting_settleLast 37 = .ok (.ireturn, 1) := by decide +kernel
theorem d_Waiting_settleLast_38 : decode b_Waiting_settleLast 38 = .ok (.aload_n 0, 1) := by decide +kernel
theorem d_Waiting_settleLast_39 : decode b_Waiting_settleLast 39 = .ok (.getfield 36, 3) := by decide +kernel
theorem d_Waiting_settleLast_42 : decode b_Waiting_settleLast 42 = .ok (.sipush 400, 3) := by decide +kernel
theorem d_Waiting_settleLast_45 : decode b_Waiting_settleLast 45 = .ok (.if_icmp .lt 6, 3) := by decide +kernel
theorem d_Waiting_settleLast_48 : decode b_Waiting_settleLast 48 = .ok (.ldc 51, 2) := by decide +kernel
theorem d_Waiting_settleLast_50 : decode b_Waiting_settleLast 50 = .ok (.ireturn, 1) := by decide +kernel
theorem d_Waiting_settleLast_51 : decode b_Waiting_settleLast 51 = .ok (.aload_n 0, 1) := by decide +kernel
theorem d_Waiting_settleLast_52 : decode b_Waiting_settleLast 52 = .ok (.dup, 1) := by decide +kernel
theorem d_Waiting_settleLast_53 : decode b_Waiting_settleLast 53 = .ok (.getfield 36, 3) := by decide +kernel
theorem d_Waiting_settleLast_56 : decode b_Waiting_settleLast 56 = .ok (.iconst 1, 1) := by decide +kernel
theorem d_Waiting_settleLast_57 : decode b_Waiting_settleLast 57 = .ok (.iadd, 1) := by decide +kernel
theorem d_Waiting_settleLast_58 : decode b_Waiting_settleLast 58 = .ok (.putfield 36, 3) := by decide +kernel
theorem d_Waiting_settleLast_61 : decode b_Waiting_settleLast 61 = .ok (.ldc 50, 2) := by decide +kernel
theorem d_Waiting_settleLast_63 : decode b_Waiting_settleLast 63 = .ok (.ireturn, 1) := by decide +kernel
theorem lk_Waiting_50 : Cond.constant "TurtleWorld$Waiting" 50 (-2147483584) ∈ tw_T := tw_i5 94 (by decide +kernel) (by decide +kernel)
theorem lk_Waiting_51 : Cond.constant "TurtleWorld$Waiting" 51 (-2147483642) ∈ tw_T := tw_i5 95 (by decide +kernel) (by decide +kernel)
theorem d_Waiting_put_0 : decode b_Waiting_put 0 = .ok (.aload_n 0, 1) := by decide +kernel
theorem d_Waiting_put_1 : decode b_Waiting_put 1 = .ok (.getfield 40, 3) := by decide +kernel
theorem d_Waiting_put_4 : decode b_Waiting_put 4 = .ok (.sipush 32000, 3) := by decide +kernel
theorem d_Waiting_put_7 : decode b_Waiting_put 7 = .ok (.if_icmp .ge 23, 3) := by decide +kernel
theorem d_Waiting_put_10 : decode b_Waiting_put 10 = .ok (.aload_n 0, 1) := by decide +kernel
theorem d_Waiting_put_11 : decode b_Waiting_put 11 = .ok (.getfield 33, 3) := by decide +kernel
theorem d_Waiting_put_14 : decode b_Waiting_put 14 = .ok (.aload_n 0, 1) := by decide +kernel
theorem d_Waiting_put_15 : decode b_Waiting_put 15 = .ok (.getfield 40, 3) := by decide +kernel
theorem d_Waiting_put_18 : decode b_Waiting_put 18 = .ok (.iload_n 1, 1) := by decide +kernel
theorem d_Waiting_put_19 : decode b_Waiting_put 19 = .ok (.iastore, 1) := by decide +kernel
theorem d_Waiting_put_20 : decode b_Waiting_put 20 = .ok (.aload_n 0, 1) := by decide +kernel
theorem d_Waiting_put_21 : decode b_Waiting_put 21 = .ok (.dup, 1) := by decide +kernel
theorem d_Waiting_put_22 : decode b_Waiting_put 22 = .ok (.getfield 40, 3) := by decide +kernel
theorem d_Waiting_put_25 : decode b_Waiting_put 25 = .ok (.iconst 1, 1) := by decide +kernel
theorem d_Waiting_put_26 : decode b_Waiting_put 26 = .ok (.iadd, 1) := by decide +kernel
theorem d_Waiting_put_27 : decode b_Waiting_put 27 = .ok (.putfield 40, 3) := by decide +kernel
theorem d_Waiting_put_30 : decode b_Waiting_put 30 = .ok (.return_, 1) := by decide +kernel
theorem lk_Waiting_33 : Cond.fieldLink "TurtleWorld$Waiting" 33 "TurtleWorld$Waiting" "values" "[I" ∈ tw_T := tw_i3 98 (by decide +kernel) (by decide +kernel)
theorem d_Waiting_supply_0 : decode b_Waiting_supply 0 = .ok (.aload_n 0, 1) := by decide +kernel
theorem d_Waiting_supply_1 : decode b_Waiting_supply 1 = .ok (.iload_n 1, 1) := by decide +kernel
theorem d_Waiting_supply_2 : decode b_Waiting_supply 2 = .ok (.invokevirtual 52, 3) := by decide +kernel
theorem d_Waiting_supply_5 : decode b_Waiting_supply 5 = .ok (.aload_n 0, 1) := by decide +kernel
theorem d_Waiting_supply_6 : decode b_Waiting_supply 6 = .ok (.getfield 36, 3) := by decide +kernel
theorem d_Waiting_supply_9 : decode b_Waiting_supply 9 = .ok (.iconst 1, 1) := by decide +kernel
theorem d_Waiting_supply_10 : decode b_Waiting_supply 10 = .ok (.isub, 1) := by decide +kernel
theorem d_Waiting_supply_11 : decode b_Waiting_supply 11 = .ok (.istore_n 2, 1) := by decide +kernel
theorem d_Waiting_supply_12 : decode b_Waiting_supply 12 = .ok (.iload_n 2, 1) := by decide +kernel
theorem d_Waiting_supply_13 : decode b_Waiting_supply 13 = .ok (.ifCond .lt 38, 3) := by decide +kernel
theorem d_Waiting_supply_16 : decode b_Waiting_supply 16 = .ok (.aload_n 0, 1) := by decide +kernel
theorem d_Waiting_supply_17 : decode b_Waiting_supply 17 = .ok (.getfield 40, 3) := by decide +kernel
theorem d_Waiting_supply_20 : decode b_Waiting_supply 20 = .ok (.aload_n 0, 1) := by decide +kernel
theorem d_Waiting_supply_21 : decode b_Waiting_supply 21 = .ok (.getfield 24, 3) := by decide +kernel
theorem d_Waiting_supply_24 : decode b_Waiting_supply 24 = .ok (.iload_n 2, 1) := by decide +kernel
theorem d_Waiting_supply_25 : decode b_Waiting_supply 25 = .ok (.iaload, 1) := by decide +kernel
theorem d_Waiting_supply_26 : decode b_Waiting_supply 26 = .ok (.isub, 1) := by decide +kernel
theorem d_Waiting_supply_27 : decode b_Waiting_supply 27 = .ok (.aload_n 0, 1) := by decide +kernel
theorem d_Waiting_supply_28 : decode b_Waiting_supply 28 = .ok (.getfield 18, 3) := by decide +kernel
theorem d_Waiting_supply_31 : decode b_Waiting_supply 31 = .ok (.iload_n 2, 1) := by decide +kernel
theorem d_Waiting_supply_32 : decode b_Waiting_supply 32 = .ok (.iaload, 1) := by decide +kernel
theorem d_Waiting_supply_33 : decode b_Waiting_supply 33 = .ok (.if_icmp .lt 18, 3) := by decide +kernel
theorem d_Waiting_supply_36 : decode b_Waiting_supply 36 = .ok (.aload_n 0, 1) := by decide +kernel
theorem d_Waiting_supply_37 : decode b_Waiting_supply 37 = .ok (.iload_n 2, 1) := by decide +kernel
theorem d_Waiting_supply_38 : decode b_Waiting_supply 38 = .ok (.putfield 36, 3) := by decide +kernel
theorem d_Waiting_supply_41 : decode b_Waiting_supply 41 = .ok (.aload_n 0, 1) := by decide +kernel
theorem d_Waiting_supply_42 : decode b_Waiting_supply 42 = .ok (.aload_n 0, 1) := by decide +kernel
theorem d_Waiting_supply_43 : decode b_Waiting_supply 43 = .ok (.getfield 9, 3) := by decide +kernel
theorem d_Waiting_supply_46 : decode b_Waiting_supply 46 = .ok (.iload_n 2, 1) := by decide +kernel
theorem d_Waiting_supply_47 : decode b_Waiting_supply 47 = .ok (.iaload, 1) := by decide +kernel
theorem d_Waiting_supply_48 : decode b_Waiting_supply 48 = .ok (.putfield 43, 3) := by decide +kernel
theorem d_Waiting_supply_51 : decode b_Waiting_supply 51 = .ok (.return_, 1) := by decide +kernel
theorem lk_Waiting_52 : Cond.methodLink "TurtleWorld$Waiting" 52 ⟨"TurtleWorld$Waiting", "put", "(I)V"⟩ ∈ tw_T := tw_i5 134 (by decide +kernel) (by decide +kernel)
theorem in_Waiting_put : Cond.instanceMethod ⟨"TurtleWorld$Waiting", "put", "(I)V"⟩ ∈ tw_T := tw_i5 118 (by decide +kernel) (by decide +kernel)
theorem sel_Waiting_put : Cond.selects "TurtleWorld$Waiting" ⟨"TurtleWorld$Waiting", "put", "(I)V"⟩ ⟨"TurtleWorld$Waiting", "put", "(I)V"⟩ ∈ tw_T := tw_i5 119 (by decide +kernel) (by decide +kernel)
theorem d_Waiting_release_0 : decode b_Waiting_release 0 = .ok (.aload_n 0, 1) := by decide +kernel
theorem d_Waiting_release_1 : decode b_Waiting_release 1 = .ok (.aload_n 0, 1) := by decide +kernel
theorem d_Waiting_release_2 : decode b_Waiting_release 2 = .ok (.getfield 40, 3) := by decide +kernel
theorem d_Waiting_release_5 : decode b_Waiting_release 5 = .ok (.iload_n 1, 1) := by decide +kernel
theorem d_Waiting_release_6 : decode b_Waiting_release 6 = .ok (.isub, 1) := by decide +kernel
theorem d_Waiting_release_7 : decode b_Waiting_release 7 = .ok (.iconst 0, 1) := by decide +kernel
theorem d_Waiting_release_8 : decode b_Waiting_release 8 = .ok (.invokestatic 56, 3) := by decide +kernel
theorem d_Waiting_release_11 : decode b_Waiting_release 11 = .ok (.putfield 40, 3) := by decide +kernel
theorem d_Waiting_release_14 : decode b_Waiting_release 14 = .ok (.return_, 1) := by decide +kernel
theorem lk_Waiting_56 : Cond.methodLink "TurtleWorld$Waiting" 56 ⟨"java/lang/Math", "max", "(II)I"⟩ ∈ tw_T := tw_i5 211 (by decide +kernel) (by decide +kernel)
theorem st_Math_max : Cond.static ⟨"java/lang/Math", "max", "(II)I"⟩ ∈ tw_T := tw_i1 111 (by decide +kernel) (by decide +kernel)
theorem d_Waiting_input_0 : decode b_Waiting_input 0 = .ok (.aload_n 0, 1) := by decide +kernel
theorem d_Waiting_input_1 : decode b_Waiting_input 1 = .ok (.getfield 40, 3) := by decide +kernel
theorem d_Waiting_input_4 : decode b_Waiting_input 4 = .ok (.iload_n 1, 1) := by decide +kernel
theorem d_Waiting_input_5 : decode b_Waiting_input 5 = .ok (.iadd, 1) := by decide +kernel
theorem d_Waiting_input_6 : decode b_Waiting_input 6 = .ok (.istore_n 2, 1) := by decide +kernel
theorem d_Waiting_input_7 : decode b_Waiting_input 7 = .ok (.iload_n 2, 1) := by decide +kernel
theorem d_Waiting_input_8 : decode b_Waiting_input 8 = .ok (.ifCond .lt 19, 3) := by decide +kernel
theorem d_Waiting_input_11 : decode b_Waiting_input 11 = .ok (.iload_n 2, 1) := by decide +kernel
theorem d_Waiting_input_12 : decode b_Waiting_input 12 = .ok (.sipush 32000, 3) := by decide +kernel
theorem d_Waiting_input_15 : decode b_Waiting_input 15 = .ok (.if_icmp .ge 12, 3) := by decide +kernel
theorem d_Waiting_input_18 : decode b_Waiting_input 18 = .ok (.aload_n 0, 1) := by decide +kernel
theorem d_Waiting_input_19 : decode b_Waiting_input 19 = .ok (.getfield 33, 3) := by decide +kernel
theorem d_Waiting_input_22 : decode b_Waiting_input 22 = .ok (.iload_n 2, 1) := by decide +kernel
theorem d_Waiting_input_23 : decode b_Waiting_input 23 = .ok (.iaload, 1) := by decide +kernel
theorem d_Waiting_input_24 : decode b_Waiting_input 24 = .ok (.goto 5, 3) := by decide +kernel
theorem d_Waiting_input_27 : decode b_Waiting_input 27 = .ok (.ldc 62, 2) := by decide +kernel
theorem d_Waiting_input_29 : decode b_Waiting_input 29 = .ok (.ireturn, 1) := by decide +kernel
theorem lk_Waiting_62 : Cond.constant "TurtleWorld$Waiting" 62 (-2147483648) ∈ tw_T := tw_i5 225 (by decide +kernel) (by decide +kernel)
theorem d_Names_addLocal_0 : decode b_Names_addLocal 0 = .ok (.aload_n 0, 1) := by decide +kernel
theorem d_Names_addLocal_1 : decode b_Names_addLocal 1 = .ok (.getfield 31, 3) := by decide +kernel
theorem d_Names_addLocal_4 : decode b_Names_addLocal 4 = .ok (.sipush 1800, 3) := by decide +kernel
theorem d_Names_addLocal_7 : decode b_Names_addLocal 7 = .ok (.if_icmp .ge 33, 3) := by decide +kernel
theorem d_Names_addLocal_10 : decode b_Names_addLocal 10 = .ok (.aload_n 0, 1) := by decide +kernel
theorem d_Names_addLocal_11 : decode b_Names_addLocal 11 = .ok (.getfield 18, 3) := by decide +kernel
theorem d_Names_addLocal_14 : decode b_Names_addLocal 14 = .ok (.aload_n 0, 1) := by decide +kernel
theorem d_Names_addLocal_15 : decode b_Names_addLocal 15 = .ok (.getfield 31, 3) := by decide +kernel
theorem d_Names_addLocal_18 : decode b_Names_addLocal 18 = .ok (.iload_n 1, 1) := by decide +kernel
theorem d_Names_addLocal_19 : decode b_Names_addLocal 19 = .ok (.iastore, 1) := by decide +kernel
theorem d_Names_addLocal_20 : decode b_Names_addLocal 20 = .ok (.aload_n 0, 1) := by decide +kernel
theorem d_Names_addLocal_21 : decode b_Names_addLocal 21 = .ok (.getfield 21, 3) := by decide +kernel
theorem d_Names_addLocal_24 : decode b_Names_addLocal 24 = .ok (.aload_n 0, 1) := by decide +kernel
theorem d_Names_addLocal_25 : decode b_Names_addLocal 25 = .ok (.getfield 31, 3) := by decide +kernel
theorem d_Names_addLocal_28 : decode b_Names_addLocal 28 = .ok (.iload_n 2, 1) := by decide +kernel
theorem d_Names_addLocal_29 : decode b_Names_addLocal 29 = .ok (.iastore, 1) := by decide +kernel
theorem d_Names_addLocal_30 : decode b_Names_addLocal 30 = .ok (.aload_n 0, 1) := by decide +kernel
theorem d_Names_addLocal_31 : decode b_Names_addLocal 31 = .ok (.dup, 1) := by decide +kernel
theorem d_Names_addLocal_32 : decode b_Names_addLocal 32 = .ok (.getfield 31, 3) := by decide +kernel
theorem d_Names_addLocal_35 : decode b_Names_addLocal 35 = .ok (.iconst 1, 1) := by decide +kernel
theorem d_Names_addLocal_36 : decode b_Names_addLocal 36 = .ok (.iadd, 1) := by decide +kernel
theorem d_Names_addLocal_37 : decode b_Names_addLocal 37 = .ok (.putfield 31, 3) := by decide +kernel
theorem d_Names_addLocal_40 : decode b_Names_addLocal 40 = .ok (.return_, 1) := by decide +kernel
theorem lk_Names_31 : Cond.fieldLink "TurtleWorld$Names" 31 "TurtleWorld$Names" "locals" "I" ∈ tw_T := tw_i2 15 (by decide +kernel) (by decide +kernel)
theorem lk_Names_18 : Cond.fieldLink "TurtleWorld$Names" 18 "TurtleWorld$Names" "localNames" "[I" ∈ tw_T := tw_i2 13 (by decide +kernel) (by decide +kernel)
theorem lk_Names_21 : Cond.fieldLink "TurtleWorld$Names" 21 "TurtleWorld$Names" "localValues" "[I" ∈ tw_T := tw_i2 14 (by decide +kernel) (by decide +kernel)
theorem d_Names_dropLocals_0 : decode b_Names_dropLocals 0 = .ok (.iload_n 1, 1) := by decide +kernel
theorem d_Names_dropLocals_1 : decode b_Names_dropLocals 1 = .ok (.ifCond .lt 16, 3) := by decide +kernel
theorem d_Names_dropLocals_4 : decode b_Names_dropLocals 4 = .ok (.iload_n 1, 1) := by decide +kernel
theorem d_Names_dropLocals_5 : decode b_Names_dropLocals 5 = .ok (.aload_n 0, 1) := by decide +kernel
theorem d_Names_dropLocals_6 : decode b_Names_dropLocals 6 = .ok (.getfield 31, 3) := by decide +kernel
theorem d_Names_dropLocals_9 : decode b_Names_dropLocals 9 = .ok (.if_icmp .ge 8, 3) := by decide +kernel
theorem d_Names_dropLocals_12 : decode b_Names_dropLocals 12 = .ok (.aload_n 0, 1) := by decide +kernel
theorem d_Names_dropLocals_13 : decode b_Names_dropLocals 13 = .ok (.iload_n 1, 1) := by decide +kernel
theorem d_Names_dropLocals_14 : decode b_Names_dropLocals 14 = .ok (.putfield 31, 3) := by decide +kernel
theorem d_Names_dropLocals_17 : decode b_Names_dropLocals 17 = .ok (.return_, 1) := by decide +kernel
theorem d_Names_globalName_0 : decode b_Names_globalName 0 = .ok (.iload_n 1, 1) := by decide +kernel
theorem d_Names_globalName_1 : decode b_Names_globalName 1 = .ok (.ifCond .lt 20, 3) := by decide +kernel
theorem d_Names_globalName_4 : decode b_Names_globalName 4 = .ok (.iload_n 1, 1) := by decide +kernel
theorem d_Names_globalName_5 : decode b_Names_globalName 5 = .ok (.aload_n 0, 1) := by decide +kernel
theorem d_Names_globalName_6 : decode b_Names_globalName 6 = .ok (.getfield 41, 3) := by decide +kernel
theorem d_Names_globalName_9 : decode b_Names_globalName 9 = .ok (.if_icmp .ge 12, 3) := by decide +kernel
theorem d_Names_globalName_12 : decode b_Names_globalName 12 = .ok (.aload_n 0, 1) := by decide +kernel
theorem d_Names_globalName_13 : decode b_Names_globalName 13 = .ok (.getfield 11, 3) := by decide +kernel
theorem d_Names_globalName_16 : decode b_Names_globalName 16 = .ok (.iload_n 1, 1) := by decide +kernel
theorem d_Names_globalName_17 : decode b_Names_globalName 17 = .ok (.iaload, 1) := by decide +kernel
theorem d_Names_globalName_18 : decode b_Names_globalName 18 = .ok (.goto 5, 3) := by decide +kernel
theorem d_Names_globalName_21 : decode b_Names_globalName 21 = .ok (.ldc 48, 2) := by decide +kernel
theorem d_Names_globalName_23 : decode b_Names_globalName 23 = .ok (.ireturn, 1) := by decide +kernel
theorem lk_Names_48 : Cond.constant "TurtleWorld$Names" 48 (-2147483648) ∈ tw_T := tw_i5 69 (by decide +kernel) (by decide +kernel)
theorem lk_Names_41 : Cond.fieldLink "TurtleWorld$Names" 41 "TurtleWorld$Names" "globals" "I" ∈ tw_T := tw_i2 11 (by decide +kernel) (by decide +kernel)
theorem lk_Names_11 : Cond.fieldLink "TurtleWorld$Names" 11 "TurtleWorld$Names" "globalNames" "[I" ∈ tw_T := tw_i2 9 (by decide +kernel) (by decide +kernel)
theorem d_Names_globalValue_0 : decode b_Names_globalValue 0 = .ok (.iload_n 1, 1) := by decide +kernel
theorem d_Names_globalValue_1 : decode b_Names_globalValue 1 = .ok (.ifCond .lt 20, 3) := by decide +kernel
theorem d_Names_globalValue_4 : decode b_Names_globalValue 4 = .ok (.iload_n 1, 1) := by decide +kernel
theorem d_Names_globalValue_5 : decode b_Names_globalValue 5 = .ok (.aload_n 0, 1) := by decide +kernel
theorem d_Names_globalValue_6 : decode b_Names_globalValue 6 = .ok (.getfield 41, 3) := by decide +kernel
theorem d_Names_globalValue_9 : decode b_Names_globalValue 9 = .ok (.if_icmp .ge 12, 3) := by decide +kernel
theorem d_Names_globalValue_12 : decode b_Names_globalValue 12 = .ok (.aload_n 0, 1) := by decide +kernel
theorem d_Names_globalValue_13 : decode b_Names_globalValue 13 = .ok (.getfield 15, 3) := by decide +kernel
theorem d_Names_globalValue_16 : decode b_Names_globalValue 16 = .ok (.iload_n 1, 1) := by decide +kernel
theorem d_Names_globalValue_17 : decode b_Names_globalValue 17 = .ok (.iaload, 1) := by decide +kernel
theorem d_Names_globalValue_18 : decode b_Names_globalValue 18 = .ok (.goto 5, 3) := by decide +kernel
theorem d_Names_globalValue_21 : decode b_Names_globalValue 21 = .ok (.ldc 48, 2) := by decide +kernel
theorem d_Names_globalValue_23 : decode b_Names_globalValue 23 = .ok (.ireturn, 1) := by decide +kernel
theorem lk_Names_15 : Cond.fieldLink "TurtleWorld$Names" 15 "TurtleWorld$Names" "globalValues" "[I" ∈ tw_T := tw_i2 10 (by decide +kernel) (by decide +kernel)
theorem d_Names_keep_0 : decode b_Names_keep 0 = .ok (.aload_n 0, 1) := by decide +kernel
theorem d_Names_keep_1 : decode b_Names_keep 1 = .ok (.aload_n 0, 1) := by decide +kernel
theorem d_Names_keep_2 : decode b_Names_keep 2 = .ok (.getfield 41, 3) := by decide +kernel
theorem d_Names_keep_5 : decode b_Names_keep 5 = .ok (.putfield 66, 3) := by decide +kernel
theorem d_Names_keep_8 : decode b_Names_keep 8 = .ok (.aload_n 0, 1) := by decide +kernel
theorem d_Names_keep_9 : decode b_Names_keep 9 = .ok (.getfield 15, 3) := by decide +kernel
theorem d_Names_keep_12 : decode b_Names_keep 12 = .ok (.iconst 0, 1) := by decide +kernel
theorem d_Names_keep_13 : decode b_Names_keep 13 = .ok (.aload_n 0, 1) := by decide +kernel
theorem d_Names_keep_14 : decode b_Names_keep 14 = .ok (.getfield 24, 3) := by decide +kernel
theorem d_Names_keep_17 : decode b_Names_keep 17 = .ok (.iconst 0, 1) := by decide +kernel
theorem d_Names_keep_18 : decode b_Names_keep 18 = .ok (.bipush 64, 2) := by decide +kernel
theorem d_Names_keep_20 : decode b_Names_keep 20 = .ok (.invokestatic 69, 3) := by decide +kernel
theorem d_Names_keep_23 : decode b_Names_keep 23 = .ok (.return_, 1) := by decide +kernel
theorem lk_Names_66 : Cond.fieldLink "TurtleWorld$Names" 66 "TurtleWorld$Names" "keptGlobals" "I" ∈ tw_T := tw_i2 20 (by decide +kernel) (by decide +kernel)
theorem lk_Names_24 : Cond.fieldLink "TurtleWorld$Names" 24 "TurtleWorld$Names" "keptValues" "[I" ∈ tw_T := tw_i2 19 (by decide +kernel) (by decide +kernel)
theorem lk_Names_69 : Cond.methodLink "TurtleWorld$Names" 69 ⟨"java/lang/System", "arraycopy", "(Ljava/lang/Object;ILjava/lang/Object;II)V"⟩ ∈ tw_T := tw_i4 224 (by decide +kernel) (by decide +kernel)
theorem d_Names_takeBack_0 : decode b_Names_takeBack 0 = .ok (.aload_n 0, 1) := by decide +kernel
theorem d_Names_takeBack_1 : decode b_Names_takeBack 1 = .ok (.aload_n 0, 1) := by decide +kernel
theorem d_Names_takeBack_2 : decode b_Names_takeBack 2 = .ok (.getfield 66, 3) := by decide +kernel
theorem d_Names_takeBack_5 : decode b_Names_takeBack 5 = .ok (.putfield 41, 3) := by decide +kernel
theorem d_Names_takeBack_8 : decode b_Names_takeBack 8 = .ok (.aload_n 0, 1) := by decide +kernel
theorem d_Names_takeBack_9 : decode b_Names_takeBack 9 = .ok (.getfield 24, 3) := by decide +kernel
theorem d_Names_takeBack_12 : decode b_Names_takeBack 12 = .ok (.iconst 0, 1) := by decide +kernel
theorem d_Names_takeBack_13 : decode b_Names_takeBack 13 = .ok (.aload_n 0, 1) := by decide +kernel
theorem d_Names_takeBack_14 : decode b_Names_takeBack 14 = .ok (.getfield 15, 3) := by decide +kernel
theorem d_Names_takeBack_17 : decode b_Names_takeBack 17 = .ok (.iconst 0, 1) := by decide +kernel
theorem d_Names_takeBack_18 : decode b_Names_takeBack 18 = .ok (.bipush 64, 2) := by decide +kernel
theorem d_Names_takeBack_20 : decode b_Names_takeBack 20 = .ok (.invokestatic 69, 3) := by decide +kernel
theorem d_Names_takeBack_23 : decode b_Names_takeBack 23 = .ok (.return_, 1) := by decide +kernel
theorem d_Procedures_keep_0 : decode b_Procedures_keep 0 = .ok (.aload_n 0, 1) := by decide +kernel
theorem d_Procedures_keep_1 : decode b_Procedures_keep 1 = .ok (.aload_n 0, 1) := by decide +kernel
theorem d_Procedures_keep_2 : decode b_Procedures_keep 2 = .ok (.getfield 31, 3) := by decide +kernel
theorem d_Procedures_keep_5 : decode b_Procedures_keep 5 = .ok (.putfield 48, 3) := by decide +kernel
theorem d_Procedures_keep_8 : decode b_Procedures_keep 8 = .ok (.aload_n 0, 1) := by decide +kernel
theorem d_Procedures_keep_9 : decode b_Procedures_keep 9 = .ok (.getfield 15, 3) := by decide +kernel
theorem d_Procedures_keep_12 : decode b_Procedures_keep 12 = .ok (.iconst 0, 1) := by decide +kernel
theorem d_Procedures_keep_13 : decode b_Procedures_keep 13 = .ok (.aload_n 0, 1) := by decide +kernel
theorem d_Procedures_keep_14 : decode b_Procedures_keep 14 = .ok (.getfield 21, 3) := by decide +kernel
theorem d_Procedures_keep_17 : decode b_Procedures_keep 17 = .ok (.iconst 0, 1) := by decide +kernel
theorem d_Procedures_keep_18 : decode b_Procedures_keep 18 = .ok (.bipush 40, 2) := by decide +kernel
theorem d_Procedures_keep_20 : decode b_Procedures_keep 20 = .ok (.invokestatic 51, 3) := by decide +kernel
theorem d_Procedures_keep_23 : decode b_Procedures_keep 23 = .ok (.aload_n 0, 1) := by decide +kernel
theorem d_Procedures_keep_24 : decode b_Procedures_keep 24 = .ok (.getfield 18, 3) := by decide +kernel
theorem d_Procedures_keep_27 : decode b_Procedures_keep 27 = .ok (.iconst 0, 1) := by decide +kernel
theorem d_Procedures_keep_28 : decode b_Procedures_keep 28 = .ok (.aload_n 0, 1) := by decide +kernel
theorem d_Procedures_keep_29 : decode b_Procedures_keep 29 = .ok (.getfield 24, 3) := by decide +kernel
theorem d_Procedures_keep_32 : decode b_Procedures_keep 32 = .ok (.iconst 0, 1) := by decide +kernel
theorem d_Procedures_keep_33 : decode b_Procedures_keep 33 = .ok (.bipush 40, 2) := by decide +kernel
theorem d_Procedures_keep_35 : decode b_Procedures_keep 35 = .ok (.invokestatic 51, 3) := by decide +kernel
theorem d_Procedures_keep_38 : decode b_Procedures_keep 38 = .ok (.return_, 1) := by decide +kernel
theorem lk_Procedures_31 : Cond.fieldLink "TurtleWorld$Procedures" 31 "TurtleWorld$Procedures" "count" "I" ∈ tw_T := tw_i2 57 (by decide +kernel) (by decide +kernel)
theorem lk_Procedures_48 : Cond.fieldLink "TurtleWorld$Procedures" 48 "TurtleWorld$Procedures" "keptCount" "I" ∈ tw_T := tw_i2 62 (by decide +kernel) (by decide +kernel)
theorem lk_Procedures_15 : Cond.fieldLink "TurtleWorld$Procedures" 15 "TurtleWorld$Procedures" "inputs" "[I" ∈ tw_T := tw_i2 49 (by decide +kernel) (by decide +kernel)
theorem lk_Procedures_21 : Cond.fieldLink "TurtleWorld$Procedures" 21 "TurtleWorld$Procedures" "keptInputs" "[I" ∈ tw_T := tw_i2 60 (by decide +kernel) (by decide +kernel)
theorem lk_Procedures_51 : Cond.methodLink "TurtleWorld$Procedures" 51 ⟨"java/lang/System", "arraycopy", "(Ljava/lang/Object;ILjava/lang/Object;II)V"⟩ ∈ tw_T := tw_i4 229 (by decide +kernel) (by decide +kernel)
theorem lk_Procedures_18 : Cond.fieldLink "TurtleWorld$Procedures" 18 "TurtleWorld$Procedures" "bodies" "[I" ∈ tw_T := tw_i2 53 (by decide +kernel) (by decide +kernel)
theorem lk_Procedures_24 : Cond.fieldLink "TurtleWorld$Procedures" 24 "TurtleWorld$Procedures" "keptBodies" "[I" ∈ tw_T := tw_i2 61 (by decide +kernel) (by decide +kernel)
theorem d_Procedures_takeBack_0 : decode b_Procedures_takeBack 0 = .ok (.aload_n 0, 1) := by decide +kernel
theorem d_Procedures_takeBack_1 : decode b_Procedures_takeBack 1 = .ok (.aload_n 0, 1) := by decide +kernel
theorem d_Procedures_takeBack_2 : decode b_Procedures_takeBack 2 = .ok (.getfield 48, 3) := by decide +kernel
theorem d_Procedures_takeBack_5 : decode b_Procedures_takeBack 5 = .ok (.putfield 31, 3) := by decide +kernel
theorem d_Procedures_takeBack_8 : decode b_Procedures_takeBack 8 = .ok (.aload_n 0, 1) := by decide +kernel
theorem d_Procedures_takeBack_9 : decode b_Procedures_takeBack 9 = .ok (.getfield 21, 3) := by decide +kernel
theorem d_Procedures_takeBack_12 : decode b_Procedures_takeBack 12 = .ok (.iconst 0, 1) := by decide +kernel
theorem d_Procedures_takeBack_13 : decode b_Procedures_takeBack 13 = .ok (.aload_n 0, 1) := by decide +kernel
theorem d_Procedures_takeBack_14 : decode b_Procedures_takeBack 14 = .ok (.getfield 15, 3) := by decide +kernel
theorem d_Procedures_takeBack_17 : decode b_Procedures_takeBack 17 = .ok (.iconst 0, 1) := by decide +kernel
theorem d_Procedures_takeBack_18 : decode b_Procedures_takeBack 18 = .ok (.bipush 40, 2) := by decide +kernel
theorem d_Procedures_takeBack_20 : decode b_Procedures_takeBack 20 = .ok (.invokestatic 51, 3) := by decide +kernel
theorem d_Procedures_takeBack_23 : decode b_Procedures_takeBack 23 = .ok (.aload_n 0, 1) := by decide +kernel
theorem d_Procedures_takeBack_24 : decode b_Procedures_takeBack 24 = .ok (.getfield 24, 3) := by decide +kernel
theorem d_Procedures_takeBack_27 : decode b_Procedures_takeBack 27 = .ok (.iconst 0, 1) := by decide +kernel
theorem d_Procedures_takeBack_28 : decode b_Procedures_takeBack 28 = .ok (.aload_n 0, 1) := by decide +kernel
theorem d_Procedures_takeBack_29 : decode b_Procedures_takeBack 29 = .ok (.getfield 18, 3) := by decide +kernel
theorem d_Procedures_takeBack_32 : decode b_Procedures_takeBack 32 = .ok (.iconst 0, 1) := by decide +kernel
theorem d_Procedures_takeBack_33 : decode b_Procedures_takeBack 33 = .ok (.bipush 40, 2) := by decide +kernel
theorem d_Procedures_takeBack_35 : decode b_Procedures_takeBack 35 = .ok (.invokestatic 51, 3) := by decide +kernel
theorem d_Procedures_takeBack_38 : decode b_Procedures_takeBack 38 = .ok (.return_, 1) := by decide +kernel
theorem d_Output_begin_0 : decode b_Output_begin 0 = .ok (.aload_n 0, 1) := by decide +kernel
theorem d_Output_begin_1 : decode b_Output_begin 1 = .ok (.iconst 0, 1) := by decide +kernel
theorem d_Output_begin_2 : decode b_Output_begin 2 = .ok (.putfield 31, 3) := by decide +kernel
theorem d_Output_begin_5 : decode b_Output_begin 5 = .ok (.return_, 1) := by decide +kernel
theorem lk_Output_31 : Cond.fieldLink "TurtleWorld$Output" 31 "TurtleWorld$Output" "length" "I" ∈ tw_T := tw_i2 130 (by decide +kernel) (by decide +kernel)
theorem d_Output_add_0 : decode b_Output_add 0 = .ok (.aload_n 0, 1) := by decide +kernel
theorem d_Output_add_1 : decode b_Output_add 1 = .ok (.getfield 31, 3) := by decide +kernel
theorem d_Output_add_4 : decode b_Output_add 4 = .ok (.sipush 8192, 3) := by decide +kernel
theorem d_Output_add_7 : decode b_Output_add 7 = .ok (.if_icmp .ge 23, 3) := by decide +kernel
theorem d_Output_add_10 : decode b_Output_add 10 = .ok (.aload_n 0, 1) := by decide +kernel
theorem d_Output_add_11 : decode b_Output_add 11 = .ok (.getfield 18, 3) := by decide +kernel
theorem d_Output_add_14 : decode b_Output_add 14 = .ok (.aload_n 0, 1) := by decide +kernel
theorem d_Output_add_15 : decode b_Output_add 15 = .ok (.getfield 31, 3) := by decide +kernel
theorem d_Output_add_18 : decode b_Output_add 18 = .ok (.iload_n 1, 1) := by decide +kernel
theorem d_Output_add_19 : decode b_Output_add 19 = .ok (.iastore, 1) := by decide +kernel
theorem d_Output_add_20 : decode b_Output_add 20 = .ok (.aload_n 0, 1) := by decide +kernel
theorem d_Output_add_21 : decode b_Output_add 21 = .ok (.dup, 1) := by decide +kernel
theorem d_Output_add_22 : decode b_Output_add 22 = .ok (.getfield 31, 3) := by decide +kernel
theorem d_Output_add_25 : decode b_Output_add 25 = .ok (.iconst 1, 1) := by decide +kernel
theorem d_Output_add_26 : decode b_Output_add 26 = .ok (.iadd, 1) := by decide +kernel
theorem d_Output_add_27 : decode b_Output_add 27 = .ok (.putfield 31, 3) := by decide +kernel
theorem d_Output_add_30 : decode b_Output_add 30 = .ok (.return_, 1) := by decide +kernel
theorem lk_Output_18 : Cond.fieldLink "TurtleWorld$Output" 18 "TurtleWorld$Output" "text" "[I" ∈ tw_T := tw_i2 128 (by decide +kernel) (by decide +kernel)
theorem d_Output_signAt_0 : decode b_Output_signAt 0 = .ok (.iload_n 1, 1) := by decide +kernel
theorem d_Output_signAt_1 : decode b_Output_signAt 1 = .ok (.ifCond .lt 20, 3) := by decide +kernel
theorem d_Output_signAt_4 : decode b_Output_signAt 4 = .ok (.iload_n 1, 1) := by decide +kernel
theorem d_Output_signAt_5 : decode b_Output_signAt 5 = .ok (.aload_n 0, 1) := by decide +kernel
theorem d_Output_signAt_6 : decode b_Output_signAt 6 = .ok (.getfield 31, 3) := by decide +kernel
theorem d_Output_signAt_9 : decode b_Output_signAt 9 = .ok (.if_icmp .ge 12, 3) := by decide +kernel
theorem d_Output_signAt_12 : decode b_Output_signAt 12 = .ok (.aload_n 0, 1) := by decide +kernel
theorem d_Output_signAt_13 : decode b_Output_signAt 13 = .ok (.getfield 18, 3) := by decide +kernel
theorem d_Output_signAt_16 : decode b_Output_signAt 16 = .ok (.iload_n 1, 1) := by decide +kernel
theorem d_Output_signAt_17 : decode b_Output_signAt 17 = .ok (.iaload, 1) := by decide +kernel
theorem d_Output_signAt_18 : decode b_Output_signAt 18 = .ok (.goto 4, 3) := by decide +kernel
theorem d_Output_signAt_21 : decode b_Output_signAt 21 = .ok (.iconst (-1), 1) := by decide +kernel
theorem d_Output_signAt_22 : decode b_Output_signAt 22 = .ok (.ireturn, 1) := by decide +kernel
theorem d_Output_keep_0 : decode b_Output_keep 0 = .ok (.aload_n 0, 1) := by decide +kernel
theorem d_Output_keep_1 : decode b_Output_keep 1 = .ok (.getfield 11, 3) := by decide +kernel
theorem d_Output_keep_4 : decode b_Output_keep 4 = .ok (.iconst 0, 1) := by decide +kernel
theorem d_Output_keep_5 : decode b_Output_keep 5 = .ok (.aload_n 0, 1) := by decide +kernel
theorem d_Output_keep_6 : decode b_Output_keep 6 = .ok (.getfield 15, 3) := by decide +kernel
theorem d_Output_keep_9 : decode b_Output_keep 9 = .ok (.iconst 0, 1) := by decide +kernel
theorem d_Output_keep_10 : decode b_Output_keep 10 = .ok (.sipush 2000, 3) := by decide +kernel
theorem d_Output_keep_13 : decode b_Output_keep 13 = .ok (.invokestatic 75, 3) := by decide +kernel
theorem d_Output_keep_16 : decode b_Output_keep 16 = .ok (.aload_n 0, 1) := by decide +kernel
theorem d_Output_keep_17 : decode b_Output_keep 17 = .ok (.aload_n 0, 1) := by decide +kernel
theorem d_Output_keep_18 : decode b_Output_keep 18 = .ok (.getfield 61, 3) := by decide +kernel
theorem d_Output_keep_21 : decode b_Output_keep 21 = .ok (.putfield 81, 3) := by decide +kernel
theorem d_Output_keep_24 : decode b_Output_keep 24 = .ok (.aload_n 0, 1) := by decide +kernel
theorem d_Output_keep_25 : decode b_Output_keep 25 = .ok (.aload_n 0, 1) := by decide +kernel
theorem d_Output_keep_26 : decode b_Output_keep 26 = .ok (.getfield 64, 3) := by decide +kernel
theorem d_Output_keep_29 : decode b_Output_keep 29 = .ok (.putfield 84, 3) := by decide +kernel
theorem d_Output_keep_32 : decode b_Output_keep 32 = .ok (.return_, 1) := by decide +kernel
theorem lk_Output_11 : Cond.fieldLink "TurtleWorld$Output" 11 "TurtleWorld$Output" "signs" "[I" ∈ tw_T := tw_i2 121 (by decide +kernel) (by decide +kernel)
theorem lk_Output_15 : Cond.fieldLink "TurtleWorld$Output" 15 "TurtleWorld$Output" "keptSigns" "[I" ∈ tw_T := tw_i2 125 (by decide +kernel) (by decide +kernel)
theorem lk_Output_75 : Cond.methodLink "TurtleWorld$Output" 75 ⟨"java/lang/System", "arraycopy", "(Ljava/lang/Object;ILjava/lang/Object;II)V"⟩ ∈ tw_T := tw_i4 239 (by decide +kernel) (by decide +kernel)
theorem lk_Output_61 : Cond.fieldLink "TurtleWorld$Output" 61 "TurtleWorld$Output" "next" "I" ∈ tw_T := tw_i2 122 (by decide +kernel) (by decide +kernel)
theorem lk_Output_81 : Cond.fieldLink "TurtleWorld$Output" 81 "TurtleWorld$Output" "keptNext" "I" ∈ tw_T := tw_i2 126 (by decide +kernel) (by decide +kernel)
theorem lk_Output_64 : Cond.fieldLink "TurtleWorld$Output" 64 "TurtleWorld$Output" "kept" "I" ∈ tw_T := tw_i2 123 (by decide +kernel) (by decide +kernel)
theorem lk_Output_84 : Cond.fieldLink "TurtleWorld$Output" 84 "TurtleWorld$Output" "keptKept" "I" ∈ tw_T := tw_i2 127 (by decide +kernel) (by decide +kernel)
theorem d_Output_takeBack_0 : decode b_Output_takeBack 0 = .ok (.aload_n 0, 1) := by decide +kernel
theorem d_Output_takeBack_1 : decode b_Output_takeBack 1 = .ok (.getfield 15, 3) := by decide +kernel
theorem d_Output_takeBack_4 : decode b_Output_takeBack 4 = .ok (.iconst 0, 1) := by decide +kernel
theorem d_Output_takeBack_5 : decode b_Output_takeBack 5 = .ok (.aload_n 0, 1) := by decide +kernel
theorem d_Output_takeBack_6 : decode b_Output_takeBack 6 = .ok (.getfield 11, 3) := by decide +kernel
theorem d_Output_takeBack_9 : decode b_Output_takeBack 9 = .ok (.iconst 0, 1) := by decide +kernel
theorem d_Output_takeBack_10 : decode b_Output_takeBack 10 = .ok (.sipush 2000, 3) := by decide +kernel
theorem d_Output_takeBack_13 : decode b_Output_takeBack 13 = .ok (.invokestatic 75, 3) := by decide +kernel
theorem d_Output_takeBack_16 : decode b_Output_takeBack 16 = .ok (.aload_n 0, 1) := by decide +kernel
theorem d_Output_takeBack_17 : decode b_Output_takeBack 17 = .ok (.aload_n 0, 1) := by decide +kernel
theorem d_Output_takeBack_18 : decode b_Output_takeBack 18 = .ok (.getfield 81, 3) := by decide +kernel
theorem d_Output_takeBack_21 : decode b_Output_takeBack 21 = .ok (.putfield 61, 3) := by decide +kernel
theorem d_Output_takeBack_24 : decode b_Output_takeBack 24 = .ok (.aload_n 0, 1) := by decide +kernel
theorem d_Output_takeBack_25 : decode b_Output_takeBack 25 = .ok (.aload_n 0, 1) := by decide +kernel
theorem d_Output_takeBack_26 : decode b_Output_takeBack 26 = .ok (.getfield 84, 3) := by decide +kernel
theorem d_Output_takeBack_29 : decode b_Output_takeBack 29 = .ok (.putfield 64, 3) := by decide +kernel
theorem d_Output_takeBack_32 : decode b_Output_takeBack 32 = .ok (.return_, 1) := by decide +kernel
theorem d_Line_begin_0 : decode b_Line_begin 0 = .ok (.aload_n 0, 1) := by decide +kernel
theorem d_Line_begin_1 : decode b_Line_begin 1 = .ok (.iconst 1, 1) := by decide +kernel
theorem d_Line_begin_2 : decode b_Line_begin 2 = .ok (.putfield 46, 3) := by decide +kernel
theorem d_Line_begin_5 : decode b_Line_begin 5 = .ok (.aload_n 0, 1) := by decide +kernel
theorem d_Line_begin_6 : decode b_Line_begin 6 = .ok (.iconst 0, 1) := by decide +kernel
theorem d_Line_begin_7 : decode b_Line_begin 7 = .ok (.putfield 50, 3) := by decide +kernel
theorem d_Line_begin_10 : decode b_Line_begin 10 = .ok (.aload_n 0, 1) := by decide +kernel
theorem d_Line_begin_11 : decode b_Line_begin 11 = .ok (.iconst 0, 1) := by decide +kernel
theorem d_Line_begin_12 : decode b_Line_begin 12 = .ok (.putfield 53, 3) := by decide +kernel
theorem d_Line_begin_15 : decode b_Line_begin 15 = .ok (.aload_n 0, 1) := by decide +kernel
theorem d_Line_begin_16 : decode b_Line_begin 16 = .ok (.iconst 0, 1) := by decide +kernel
theorem d_Line_begin_17 : decode b_Line_begin 17 = .ok (.putfield 56, 3) := by decide +kernel
theorem d_Line_begin_20 : decode b_Line_begin 20 = .ok (.aload_n 0, 1) := by decide +kernel
theorem d_Line_begin_21 : decode b_Line_begin 21 = .ok (.iconst 0, 1) := by decide +kernel
theorem d_Line_begin_22 : decode b_Line_begin 22 = .ok (.putfield 59, 3) := by decide +kernel
theorem d_Line_begin_25 : decode b_Line_begin 25 = .ok (.aload_n 0, 1) := by decide +kernel
theorem d_Line_begin_26 : decode b_Line_begin 26 = .ok (.iconst 0, 1) := by decide +kernel
theorem d_Line_begin_27 : decode b_Line_begin 27 = .ok (.putfield 62, 3) := by decide +kernel
theorem d_Line_begin_30 : decode b_Line_begin 30 = .ok (.aload_n 0, 1) := by decide +kernel
theorem d_Line_begin_31 : decode b_Line_begin 31 = .ok (.iconst 0, 1) := by decide +kernel
theorem d_Line_begin_32 : decode b_Line_begin 32 = .ok (.putfield 65, 3) := by decide +kernel
theorem d_Line_begin_35 : decode b_Line_begin 35 = .ok (.return_, 1) := by decide +kernel
theorem lk_Line_46 : Cond.fieldLink "TurtleWorld$Line" 46 "TurtleWorld$Line" "state" "I" ∈ tw_T := tw_i2 234 (by decide +kernel) (by decide +kernel)
theorem lk_Line_50 : Cond.fieldLink "TurtleWorld$Line" 50 "TurtleWorld$Line" "error" "I" ∈ tw_T := tw_i2 237 (by decide +kernel) (by decide +kernel)
theorem lk_Line_53 : Cond.fieldLink "TurtleWorld$Line" 53 "TurtleWorld$Line" "done" "I" ∈ tw_T := tw_i3 0 (by decide +kernel) (by decide +kernel)
theorem lk_Line_56 : Cond.fieldLink "TurtleWorld$Line" 56 "TurtleWorld$Line" "made" "I" ∈ tw_T := tw_i3 3 (by decide +kernel) (by decide +kernel)
theorem lk_Line_59 : Cond.fieldLink "TurtleWorld$Line" 59 "TurtleWorld$Line" "caught" "I" ∈ tw_T := tw_i3 7 (by decide +kernel) (by decide +kernel)
theorem lk_Line_62 : Cond.fieldLink "TurtleWorld$Line" 62 "TurtleWorld$Line" "depth" "I" ∈ tw_T := tw_i3 10 (by decide +kernel) (by decide +kernel)
theorem lk_Line_65 : Cond.fieldLink "TurtleWorld$Line" 65 "TurtleWorld$Line" "calls" "I" ∈ tw_T := tw_i3 13 (by decide +kernel) (by decide +kernel)
theorem i32_sub {a b : Int32} (h1 : -2147483648 ≤ a.toInt - b.toInt) (h2 : a.toInt - b.toInt < 2147483648) : (a - b).toInt = a.toInt - b.toInt := by
  rw [Int32.toInt_sub]; exact Int.bmod_eq_of_le (by omega) (by omega)
theorem i32_add {a b : Int32} (h1 : -2147483648 ≤ a.toInt + b.toInt) (h2 : a.toInt + b.toInt < 2147483648) : (a + b).toInt = a.toInt + b.toInt := by
  rw [Int32.toInt_add]; exact Int.bmod_eq_of_le (by omega) (by omega)
