theorem d_Heap_truth_0 : decode b_Heap_truth 0 = .ok (.iload_n 1, 1) := by decide +kernel
theorem d_Heap_truth_1 : decode b_Heap_truth 1 = .ok (.ifCond .eq 10, 3) := by decide +kernel
theorem d_Heap_truth_4 : decode b_Heap_truth 4 = .ok (.aload_n 0, 1) := by decide +kernel
theorem d_Heap_truth_5 : decode b_Heap_truth 5 = .ok (.getfield 41, 3) := by decide +kernel
theorem d_Heap_truth_8 : decode b_Heap_truth 8 = .ok (.goto 7, 3) := by decide +kernel
theorem d_Heap_truth_11 : decode b_Heap_truth 11 = .ok (.aload_n 0, 1) := by decide +kernel
theorem d_Heap_truth_12 : decode b_Heap_truth 12 = .ok (.getfield 46, 3) := by decide +kernel
theorem d_Heap_truth_15 : decode b_Heap_truth 15 = .ok (.ireturn, 1) := by decide +kernel
theorem lk_Heap_46 : Cond.fieldLink "TurtleWorld$Heap" 46 "TurtleWorld$Heap" "no" "I" ∈ tw_T := tw_i1 202 (by decide +kernel) (by decide +kernel)
theorem lk_Heap_41 : Cond.fieldLink "TurtleWorld$Heap" 41 "TurtleWorld$Heap" "yes" "I" ∈ tw_T := tw_i1 199 (by decide +kernel) (by decide +kernel)
theorem d_Heap_count_0 : decode b_Heap_count 0 = .ok (.iload_n 1, 1) := by decide +kernel
theorem d_Heap_count_1 : decode b_Heap_count 1 = .ok (.iconst 2, 1) := by decide +kernel
theorem d_Heap_count_2 : decode b_Heap_count 2 = .ok (.ishr, 1) := by decide +kernel
theorem d_Heap_count_3 : decode b_Heap_count 3 = .ok (.istore_n 2, 1) := by decide +kernel
theorem d_Heap_count_4 : decode b_Heap_count 4 = .ok (.iload_n 1, 1) := by decide +kernel
theorem d_Heap_count_5 : decode b_Heap_count 5 = .ok (.iconst 3, 1) := by decide +kernel
theorem d_Heap_count_6 : decode b_Heap_count 6 = .ok (.iand, 1) := by decide +kernel
theorem d_Heap_count_7 : decode b_Heap_count 7 = .ok (.iconst 1, 1) := by decide +kernel
theorem d_Heap_count_8 : decode b_Heap_count 8 = .ok (.if_icmp .ne 29, 3) := by decide +kernel
theorem d_Heap_count_11 : decode b_Heap_count 11 = .ok (.iload_n 2, 1) := by decide +kernel
theorem d_Heap_count_12 : decode b_Heap_count 12 = .ok (.ifCond .le 25, 3) := by decide +kernel
theorem d_Heap_count_15 : decode b_Heap_count 15 = .ok (.iload_n 2, 1) := by decide +kernel
theorem d_Heap_count_16 : decode b_Heap_count 16 = .ok (.aload_n 0, 1) := by decide +kernel
theorem d_Heap_count_17 : decode b_Heap_count 17 = .ok (.getfield 11, 3) := by decide +kernel
theorem d_Heap_count_20 : decode b_Heap_count 20 = .ok (.arraylength, 1) := by decide +kernel
theorem d_Heap_count_21 : decode b_Heap_count 21 = .ok (.if_icmp .ge 16, 3) := by decide +kernel
theorem d_Heap_count_24 : decode b_Heap_count 24 = .ok (.aload_n 0, 1) := by decide +kernel
theorem d_Heap_count_25 : decode b_Heap_count 25 = .ok (.getfield 11, 3) := by decide +kernel
theorem d_Heap_count_28 : decode b_Heap_count 28 = .ok (.iload_n 2, 1) := by decide +kernel
theorem d_Heap_count_29 : decode b_Heap_count 29 = .ok (.iaload, 1) := by decide +kernel
theorem d_Heap_count_30 : decode b_Heap_count 30 = .ok (.sipush 8191, 3) := by decide +kernel
theorem d_Heap_count_33 : decode b_Heap_count 33 = .ok (.iand, 1) := by decide +kernel
theorem d_Heap_count_34 : decode b_Heap_count 34 = .ok (.goto 4, 3) := by decide +kernel
theorem d_Heap_count_37 : decode b_Heap_count 37 = .ok (.iconst 0, 1) := by decide +kernel
theorem d_Heap_count_38 : decode b_Heap_count 38 = .ok (.ireturn, 1) := by decide +kernel
theorem lk_Heap_11 : Cond.fieldLink "TurtleWorld$Heap" 11 "TurtleWorld$Heap" "cells" "[I" ∈ tw_T := tw_i1 208 (by decide +kernel) (by decide +kernel)
theorem d_Heap_member_0 : decode b_Heap_member 0 = .ok (.iload_n 1, 1) := by decide +kernel
theorem d_Heap_member_1 : decode b_Heap_member 1 = .ok (.iconst 2, 1) := by decide +kernel
theorem d_Heap_member_2 : decode b_Heap_member 2 = .ok (.ishr, 1) := by decide +kernel
theorem d_Heap_member_3 : decode b_Heap_member 3 = .ok (.iconst 1, 1) := by decide +kernel
theorem d_Heap_member_4 : decode b_Heap_member 4 = .ok (.iadd, 1) := by decide +kernel
theorem d_Heap_member_5 : decode b_Heap_member 5 = .ok (.iload_n 2, 1) := by decide +kernel
theorem d_Heap_member_6 : decode b_Heap_member 6 = .ok (.iadd, 1) := by decide +kernel
theorem d_Heap_member_7 : decode b_Heap_member 7 = .ok (.istore_n 3, 1) := by decide +kernel
theorem d_Heap_member_8 : decode b_Heap_member 8 = .ok (.iload_n 2, 1) := by decide +kernel
theorem d_Heap_member_9 : decode b_Heap_member 9 = .ok (.ifCond .lt 30, 3) := by decide +kernel
theorem d_Heap_member_12 : decode b_Heap_member 12 = .ok (.iload_n 2, 1) := by decide +kernel
theorem d_Heap_member_13 : decode b_Heap_member 13 = .ok (.aload_n 0, 1) := by decide +kernel
theorem d_Heap_member_14 : decode b_Heap_member 14 = .ok (.iload_n 1, 1) := by decide +kernel
theorem d_Heap_member_15 : decode b_Heap_member 15 = .ok (.invokevirtual 125, 3) := by decide +kernel
theorem d_Heap_member_18 : decode b_Heap_member 18 = .ok (.if_icmp .ge 21, 3) := by decide +kernel
theorem d_Heap_member_21 : decode b_Heap_member 21 = .ok (.iload_n 3, 1) := by decide +kernel
theorem d_Heap_member_22 : decode b_Heap_member 22 = .ok (.aload_n 0, 1) := by decide +kernel
theorem d_Heap_member_23 : decode b_Heap_member 23 = .ok (.getfield 11, 3) := by decide +kernel
theorem d_Heap_member_26 : decode b_Heap_member 26 = .ok (.arraylength, 1) := by decide +kernel
theorem d_Heap_member_27 : decode b_Heap_member 27 = .ok (.if_icmp .ge 12, 3) := by decide +kernel
theorem d_Heap_member_30 : decode b_Heap_member 30 = .ok (.aload_n 0, 1) := by decide +kernel
theorem d_Heap_member_31 : decode b_Heap_member 31 = .ok (.getfield 11, 3) := by decide +kernel
theorem d_Heap_member_34 : decode b_Heap_member 34 = .ok (.iload_n 3, 1) := by decide +kernel
theorem d_Heap_member_35 : decode b_Heap_member 35 = .ok (.iaload, 1) := by decide +kernel
theorem d_Heap_member_36 : decode b_Heap_member 36 = .ok (.goto 5, 3) := by decide +kernel
theorem d_Heap_member_39 : decode b_Heap_member 39 = .ok (.ldc 71, 2) := by decide +kernel
theorem d_Heap_member_41 : decode b_Heap_member 41 = .ok (.ireturn, 1) := by decide +kernel
theorem lk_Heap_71 : Cond.constant "TurtleWorld$Heap" 71 (-2147483648) ∈ tw_T := tw_i1 184 (by decide +kernel) (by decide +kernel)
theorem lk_Heap_125 : Cond.methodLink "TurtleWorld$Heap" 125 ⟨"TurtleWorld$Heap", "count", "(I)I"⟩ ∈ tw_T := tw_i5 35 (by decide +kernel) (by decide +kernel)
theorem in_Heap_count : Cond.instanceMethod ⟨"TurtleWorld$Heap", "count", "(I)I"⟩ ∈ tw_T := tw_i5 36 (by decide +kernel) (by decide +kernel)
theorem sel_Heap_count : Cond.selects "TurtleWorld$Heap" ⟨"TurtleWorld$Heap", "count", "(I)I"⟩ ⟨"TurtleWorld$Heap", "count", "(I)I"⟩ ∈ tw_T := tw_i5 37 (by decide +kernel) (by decide +kernel)
theorem ini_Heap : Cond.initialized "TurtleWorld$Heap" ∈ tw_T := tw_i1 2 (by decide +kernel) (by decide +kernel)
theorem d_Heap_putMember_0 : decode b_Heap_putMember 0 = .ok (.iload_n 1, 1) := by decide +kernel
theorem d_Heap_putMember_1 : decode b_Heap_putMember 1 = .ok (.iconst 2, 1) := by decide +kernel
theorem d_Heap_putMember_2 : decode b_Heap_putMember 2 = .ok (.ishr, 1) := by decide +kernel
theorem d_Heap_putMember_3 : decode b_Heap_putMember 3 = .ok (.iconst 1, 1) := by decide +kernel
theorem d_Heap_putMember_4 : decode b_Heap_putMember 4 = .ok (.iadd, 1) := by decide +kernel
theorem d_Heap_putMember_5 : decode b_Heap_putMember 5 = .ok (.iload_n 2, 1) := by decide +kernel
theorem d_Heap_putMember_6 : decode b_Heap_putMember 6 = .ok (.iadd, 1) := by decide +kernel
theorem d_Heap_putMember_7 : decode b_Heap_putMember 7 = .ok (.istore 4, 2) := by decide +kernel
theorem d_Heap_putMember_9 : decode b_Heap_putMember 9 = .ok (.iload_n 2, 1) := by decide +kernel
theorem d_Heap_putMember_10 : decode b_Heap_putMember 10 = .ok (.ifCond .lt 30, 3) := by decide +kernel
theorem d_Heap_putMember_13 : decode b_Heap_putMember 13 = .ok (.iload_n 2, 1) := by decide +kernel
theorem d_Heap_putMember_14 : decode b_Heap_putMember 14 = .ok (.aload_n 0, 1) := by decide +kernel
theorem d_Heap_putMember_15 : decode b_Heap_putMember 15 = .ok (.iload_n 1, 1) := by decide +kernel
theorem d_Heap_putMember_16 : decode b_Heap_putMember 16 = .ok (.invokevirtual 125, 3) := by decide +kernel
theorem d_Heap_putMember_19 : decode b_Heap_putMember 19 = .ok (.if_icmp .ge 21, 3) := by decide +kernel
theorem d_Heap_putMember_22 : decode b_Heap_putMember 22 = .ok (.iload 4, 2) := by decide +kernel
theorem d_Heap_putMember_24 : decode b_Heap_putMember 24 = .ok (.aload_n 0, 1) := by decide +kernel
theorem d_Heap_putMember_25 : decode b_Heap_putMember 25 = .ok (.getfield 11, 3) := by decide +kernel
theorem d_Heap_putMember_28 : decode b_Heap_putMember 28 = .ok (.arraylength, 1) := by decide +kernel
theorem d_Heap_putMember_29 : decode b_Heap_putMember 29 = .ok (.if_icmp .ge 11, 3) := by decide +kernel
theorem d_Heap_putMember_32 : decode b_Heap_putMember 32 = .ok (.aload_n 0, 1) := by decide +kernel
theorem d_Heap_putMember_33 : decode b_Heap_putMember 33 = .ok (.getfield 11, 3) := by decide +kernel
theorem d_Heap_putMember_36 : decode b_Heap_putMember 36 = .ok (.iload 4, 2) := by decide +kernel
theorem d_Heap_putMember_38 : decode b_Heap_putMember 38 = .ok (.iload_n 3, 1) := by decide +kernel
theorem d_Heap_putMember_39 : decode b_Heap_putMember 39 = .ok (.iastore, 1) := by decide +kernel
theorem d_Heap_putMember_40 : decode b_Heap_putMember 40 = .ok (.return_, 1) := by decide +kernel
theorem d_Heap_size_0 : decode b_Heap_size 0 = .ok (.iload_n 1, 1) := by decide +kernel
theorem d_Heap_size_1 : decode b_Heap_size 1 = .ok (.iconst 2, 1) := by decide +kernel
theorem d_Heap_size_2 : decode b_Heap_size 2 = .ok (.ishr, 1) := by decide +kernel
theorem d_Heap_size_3 : decode b_Heap_size 3 = .ok (.istore_n 2, 1) := by decide +kernel
theorem d_Heap_size_4 : decode b_Heap_size 4 = .ok (.iload_n 1, 1) := by decide +kernel
theorem d_Heap_size_5 : decode b_Heap_size 5 = .ok (.iconst 1, 1) := by decide +kernel
theorem d_Heap_size_6 : decode b_Heap_size 6 = .ok (.iand, 1) := by decide +kernel
theorem d_Heap_size_7 : decode b_Heap_size 7 = .ok (.ifCond .eq 16, 3) := by decide +kernel
theorem d_Heap_size_10 : decode b_Heap_size 10 = .ok (.iload_n 2, 1) := by decide +kernel
theorem d_Heap_size_11 : decode b_Heap_size 11 = .ok (.ifCond .le 12, 3) := by decide +kernel
theorem d_Heap_size_14 : decode b_Heap_size 14 = .ok (.iload_n 2, 1) := by decide +kernel
theorem d_Heap_size_15 : decode b_Heap_size 15 = .ok (.aload_n 0, 1) := by decide +kernel
theorem d_Heap_size_16 : decode b_Heap_size 16 = .ok (.getfield 11, 3) := by decide +kernel
theorem d_Heap_size_19 : decode b_Heap_size 19 = .ok (.arraylength, 1) := by decide +kernel
theorem d_Heap_size_20 : decode b_Heap_size 20 = .ok (.if_icmp .lt 5, 3) := by decide +kernel
theorem d_Heap_size_23 : decode b_Heap_size 23 = .ok (.iconst 1, 1) := by decide +kernel
theorem d_Heap_size_24 : decode b_Heap_size 24 = .ok (.ireturn, 1) := by decide +kernel
theorem d_Heap_size_25 : decode b_Heap_size 25 = .ok (.iload_n 1, 1) := by decide +kernel
theorem d_Heap_size_26 : decode b_Heap_size 26 = .ok (.iconst 3, 1) := by decide +kernel
theorem d_Heap_size_27 : decode b_Heap_size 27 = .ok (.iand, 1) := by decide +kernel
theorem d_Heap_size_28 : decode b_Heap_size 28 = .ok (.iconst 1, 1) := by decide +kernel
theorem d_Heap_size_29 : decode b_Heap_size 29 = .ok (.if_icmp .ne 16, 3) := by decide +kernel
theorem d_Heap_size_32 : decode b_Heap_size 32 = .ok (.aload_n 0, 1) := by decide +kernel
theorem d_Heap_size_33 : decode b_Heap_size 33 = .ok (.getfield 11, 3) := by decide +kernel
theorem d_Heap_size_36 : decode b_Heap_size 36 = .ok (.iload_n 2, 1) := by decide +kernel
theorem d_Heap_size_37 : decode b_Heap_size 37 = .ok (.iaload, 1) := by decide +kernel
theorem d_Heap_size_38 : decode b_Heap_size 38 = .ok (.ldc 128, 2) := by decide +kernel
theorem d_Heap_size_40 : decode b_Heap_size 40 = .ok (.iand, 1) := by decide +kernel
theorem d_Heap_size_41 : decode b_Heap_size 41 = .ok (.bipush 13, 2) := by decide +kernel
theorem d_Heap_size_43 : decode b_Heap_size 43 = .ok (.ishr, 1) := by decide +kernel
theorem d_Heap_size_44 : decode b_Heap_size 44 = .ok (.ireturn, 1) := by decide +kernel
theorem d_Heap_size_45 : decode b_Heap_size 45 = .ok (.iconst 0, 1) := by decide +kernel
theorem d_Heap_size_46 : decode b_Heap_size 46 = .ok (.istore_n 3, 1) := by decide +kernel
theorem d_Heap_size_47 : decode b_Heap_size 47 = .ok (.iload_n 2, 1) := by decide +kernel
theorem d_Heap_size_48 : decode b_Heap_size 48 = .ok (.istore 4, 2) := by decide +kernel
theorem d_Heap_size_50 : decode b_Heap_size 50 = .ok (.iload 4, 2) := by decide +kernel
theorem d_Heap_size_52 : decode b_Heap_size 52 = .ok (.aload_n 0, 1) := by decide +kernel
theorem d_Heap_size_53 : decode b_Heap_size 53 = .ok (.getfield 11, 3) := by decide +kernel
theorem d_Heap_size_56 : decode b_Heap_size 56 = .ok (.arraylength, 1) := by decide +kernel
theorem d_Heap_size_57 : decode b_Heap_size 57 = .ok (.if_icmp .ge 22, 3) := by decide +kernel
theorem d_Heap_size_60 : decode b_Heap_size 60 = .ok (.aload_n 0, 1) := by decide +kernel
theorem d_Heap_size_61 : decode b_Heap_size 61 = .ok (.getfield 11, 3) := by decide +kernel
theorem d_Heap_size_64 : decode b_Heap_size 64 = .ok (.iload 4, 2) := by decide +kernel
theorem d_Heap_size_66 : decode b_Heap_size 66 = .ok (.iaload, 1) := by decide +kernel
theorem d_Heap_size_67 : decode b_Heap_size 67 = .ok (.ifCond .eq 12, 3) := by decide +kernel
theorem d_Heap_size_70 : decode b_Heap_size 70 = .ok (.iinc 3 1, 3) := by decide +kernel
theorem d_Heap_size_73 : decode b_Heap_size 73 = .ok (.iinc 4 1, 3) := by decide +kernel
theorem d_Heap_size_76 : decode b_Heap_size 76 = .ok (.goto (-26), 3) := by decide +kernel
theorem d_Heap_size_79 : decode b_Heap_size 79 = .ok (.iload_n 3, 1) := by decide +kernel
theorem d_Heap_size_80 : decode b_Heap_size 80 = .ok (.ireturn, 1) := by decide +kernel
theorem lk_Heap_128 : Cond.constant "TurtleWorld$Heap" 128 (-1073741825) ∈ tw_T := tw_i4 67 (by decide +kernel) (by decide +kernel)
theorem d_Heap_behind_0 : decode b_Heap_behind 0 = .ok (.iload_n 1, 1) := by decide +kernel
theorem d_Heap_behind_1 : decode b_Heap_behind 1 = .ok (.iconst 2, 1) := by decide +kernel
theorem d_Heap_behind_2 : decode b_Heap_behind 2 = .ok (.ishr, 1) := by decide +kernel
theorem d_Heap_behind_3 : decode b_Heap_behind 3 = .ok (.iconst 1, 1) := by decide +kernel
theorem d_Heap_behind_4 : decode b_Heap_behind 4 = .ok (.iadd, 1) := by decide +kernel
theorem d_Heap_behind_5 : decode b_Heap_behind 5 = .ok (.istore_n 2, 1) := by decide +kernel
theorem d_Heap_behind_6 : decode b_Heap_behind 6 = .ok (.iload_n 2, 1) := by decide +kernel
theorem d_Heap_behind_7 : decode b_Heap_behind 7 = .ok (.iconst 1, 1) := by decide +kernel
theorem d_Heap_behind_8 : decode b_Heap_behind 8 = .ok (.if_icmp .le 29, 3) := by decide +kernel
theorem d_Heap_behind_11 : decode b_Heap_behind 11 = .ok (.iload_n 2, 1) := by decide +kernel
theorem d_Heap_behind_12 : decode b_Heap_behind 12 = .ok (.aload_n 0, 1) := by decide +kernel
theorem d_Heap_behind_13 : decode b_Heap_behind 13 = .ok (.getfield 11, 3) := by decide +kernel
theorem d_Heap_behind_16 : decode b_Heap_behind 16 = .ok (.arraylength, 1) := by decide +kernel
theorem d_Heap_behind_17 : decode b_Heap_behind 17 = .ok (.if_icmp .ge 20, 3) := by decide +kernel
theorem d_Heap_behind_20 : decode b_Heap_behind 20 = .ok (.aload_n 0, 1) := by decide +kernel
theorem d_Heap_behind_21 : decode b_Heap_behind 21 = .ok (.getfield 11, 3) := by decide +kernel
theorem d_Heap_behind_24 : decode b_Heap_behind 24 = .ok (.iload_n 2, 1) := by decide +kernel
theorem d_Heap_behind_25 : decode b_Heap_behind 25 = .ok (.iaload, 1) := by decide +kernel
theorem d_Heap_behind_26 : decode b_Heap_behind 26 = .ok (.ifCond .eq 11, 3) := by decide +kernel
theorem d_Heap_behind_29 : decode b_Heap_behind 29 = .ok (.iload_n 2, 1) := by decide +kernel
theorem d_Heap_behind_30 : decode b_Heap_behind 30 = .ok (.iconst 2, 1) := by decide +kernel
theorem d_Heap_behind_31 : decode b_Heap_behind 31 = .ok (.ishl, 1) := by decide +kernel
theorem d_Heap_behind_32 : decode b_Heap_behind 32 = .ok (.iconst 3, 1) := by decide +kernel
theorem d_Heap_behind_33 : decode b_Heap_behind 33 = .ok (.ior, 1) := by decide +kernel
theorem d_Heap_behind_34 : decode b_Heap_behind 34 = .ok (.goto 5, 3) := by decide +kernel
theorem d_Heap_behind_37 : decode b_Heap_behind 37 = .ok (.ldc 71, 2) := by decide +kernel
theorem d_Heap_behind_39 : decode b_Heap_behind 39 = .ok (.ireturn, 1) := by decide +kernel
theorem d_Heap_sameWord_0 : decode b_Heap_sameWord 0 = .ok (.iload_n 1, 1) := by decide +kernel
theorem d_Heap_sameWord_1 : decode b_Heap_sameWord 1 = .ok (.iload_n 2, 1) := by decide +kernel
theorem d_Heap_sameWord_2 : decode b_Heap_sameWord 2 = .ok (.if_icmp .ne 5, 3) := by decide +kernel
theorem d_Heap_sameWord_5 : decode b_Heap_sameWord 5 = .ok (.iconst 1, 1) := by decide +kernel
theorem d_Heap_sameWord_6 : decode b_Heap_sameWord 6 = .ok (.ireturn, 1) := by decide +kernel
theorem d_Heap_sameWord_7 : decode b_Heap_sameWord 7 = .ok (.iload_n 1, 1) := by decide +kernel
theorem d_Heap_sameWord_8 : decode b_Heap_sameWord 8 = .ok (.iconst 2, 1) := by decide +kernel
theorem d_Heap_sameWord_9 : decode b_Heap_sameWord 9 = .ok (.ishr, 1) := by decide +kernel
theorem d_Heap_sameWord_10 : decode b_Heap_sameWord 10 = .ok (.istore_n 3, 1) := by decide +kernel
theorem d_Heap_sameWord_11 : decode b_Heap_sameWord 11 = .ok (.iload_n 2, 1) := by decide +kernel
theorem d_Heap_sameWord_12 : decode b_Heap_sameWord 12 = .ok (.iconst 2, 1) := by decide +kernel
theorem d_Heap_sameWord_13 : decode b_Heap_sameWord 13 = .ok (.ishr, 1) := by decide +kernel
theorem d_Heap_sameWord_14 : decode b_Heap_sameWord 14 = .ok (.istore 4, 2) := by decide +kernel
theorem d_Heap_sameWord_16 : decode b_Heap_sameWord 16 = .ok (.iload_n 3, 1) := by decide +kernel
theorem d_Heap_sameWord_17 : decode b_Heap_sameWord 17 = .ok (.ifCond .le 8, 3) := by decide +kernel
theorem d_Heap_sameWord_20 : decode b_Heap_sameWord 20 = .ok (.iload 4, 2) := by decide +kernel
theorem d_Heap_sameWord_22 : decode b_Heap_sameWord 22 = .ok (.ifCond .gt 5, 3) := by decide +kernel
theorem d_Heap_sameWord_25 : decode b_Heap_sameWord 25 = .ok (.iconst 0, 1) := by decide +kernel
theorem d_Heap_sameWord_26 : decode b_Heap_sameWord 26 = .ok (.ireturn, 1) := by decide +kernel
theorem d_Heap_sameWord_27 : decode b_Heap_sameWord 27 = .ok (.iconst 0, 1) := by decide +kernel
theorem d_Heap_sameWord_28 : decode b_Heap_sameWord 28 = .ok (.istore 5, 2) := by decide +kernel
theorem d_Heap_sameWord_30 : decode b_Heap_sameWord 30 = .ok (.iload_n 3, 1) := by decide +kernel
theorem d_Heap_sameWord_31 : decode b_Heap_sameWord 31 = .ok (.iload 5, 2) := by decide +kernel
theorem d_Heap_sameWord_33 : decode b_Heap_sameWord 33 = .ok (.iadd, 1) := by decide +kernel
theorem d_Heap_sameWord_34 : decode b_Heap_sameWord 34 = .ok (.aload_n 0, 1) := by decide +kernel
theorem d_Heap_sameWord_35 : decode b_Heap_sameWord 35 = .ok (.getfield 11, 3) := by decide +kernel
theorem d_Heap_sameWord_38 : decode b_Heap_sameWord 38 = .ok (.arraylength, 1) := by decide +kernel
theorem d_Heap_sameWord_39 : decode b_Heap_sameWord 39 = .ok (.if_icmp .ge 57, 3) := by decide +kernel
theorem d_Heap_sameWord_42 : decode b_Heap_sameWord 42 = .ok (.iload 4, 2) := by decide +kernel
theorem d_Heap_sameWord_44 : decode b_Heap_sameWord 44 = .ok (.iload 5, 2) := by decide +kernel
theorem d_Heap_sameWord_46 : decode b_Heap_sameWord 46 = .ok (.iadd, 1) := by decide +kernel
theorem d_Heap_sameWord_47 : decode b_Heap_sameWord 47 = .ok (.aload_n 0, 1) := by decide +kernel
theorem d_Heap_sameWord_48 : decode b_Heap_sameWord 48 = .ok (.getfield 11, 3) := by decide +kernel
theorem d_Heap_sameWord_51 : decode b_Heap_sameWord 51 = .ok (.arraylength, 1) := by decide +kernel
theorem d_Heap_sameWord_52 : decode b_Heap_sameWord 52 = .ok (.if_icmp .ge 44, 3) := by decide +kernel
theorem d_Heap_sameWord_55 : decode b_Heap_sameWord 55 = .ok (.aload_n 0, 1) := by decide +kernel
theorem d_Heap_sameWord_56 : decode b_Heap_sameWord 56 = .ok (.getfield 11, 3) := by decide +kernel
theorem d_Heap_sameWord_59 : decode b_Heap_sameWord 59 = .ok (.iload_n 3, 1) := by decide +kernel
theorem d_Heap_sameWord_60 : decode b_Heap_sameWord 60 = .ok (.iload 5, 2) := by decide +kernel
theorem d_Heap_sameWord_62 : decode b_Heap_sameWord 62 = .ok (.iadd, 1) := by decide +kernel
theorem d_Heap_sameWord_63 : decode b_Heap_sameWord 63 = .ok (.iaload, 1) := by decide +kernel
theorem d_Heap_sameWord_64 : decode b_Heap_sameWord 64 = .ok (.istore 6, 2) := by decide +kernel
theorem d_Heap_sameWord_66 : decode b_Heap_sameWord 66 = .ok (.iload 6, 2) := by decide +kernel
theorem d_Heap_sameWord_68 : decode b_Heap_sameWord 68 = .ok (.aload_n 0, 1) := by decide +kernel
theorem d_Heap_sameWord_69 : decode b_Heap_sameWord 69 = .ok (.getfield 11, 3) := by decide +kernel
theorem d_Heap_sameWord_72 : decode b_Heap_sameWord 72 = .ok (.iload 4, 2) := by decide +kernel
theorem d_Heap_sameWord_74 : decode b_Heap_sameWord 74 = .ok (.iload 5, 2) := by decide +kernel
theorem d_Heap_sameWord_76 : decode b_Heap_sameWord 76 = .ok (.iadd, 1) := by decide +kernel
theorem d_Heap_sameWord_77 : decode b_Heap_sameWord 77 = .ok (.iaload, 1) := by decide +kernel
theorem d_Heap_sameWord_78 : decode b_Heap_sameWord 78 = .ok (.if_icmp .eq 5, 3) := by decide +kernel
theorem d_Heap_sameWord_81 : decode b_Heap_sameWord 81 = .ok (.iconst 0, 1) := by decide +kernel
theorem d_Heap_sameWord_82 : decode b_Heap_sameWord 82 = .ok (.ireturn, 1) := by decide +kernel
theorem d_Heap_sameWord_83 : decode b_Heap_sameWord 83 = .ok (.iload 6, 2) := by decide +kernel
theorem d_Heap_sameWord_85 : decode b_Heap_sameWord 85 = .ok (.ifCond .ne 5, 3) := by decide +kernel
theorem d_Heap_sameWord_88 : decode b_Heap_sameWord 88 = .ok (.iconst 1, 1) := by decide +kernel
theorem d_Heap_sameWord_89 : decode b_Heap_sameWord 89 = .ok (.ireturn, 1) := by decide +kernel
theorem d_Heap_sameWord_90 : decode b_Heap_sameWord 90 = .ok (.iinc 5 1, 3) := by decide +kernel
theorem d_Heap_sameWord_93 : decode b_Heap_sameWord 93 = .ok (.goto (-63), 3) := by decide +kernel
theorem d_Heap_sameWord_96 : decode b_Heap_sameWord 96 = .ok (.iconst 0, 1) := by decide +kernel
theorem d_Heap_sameWord_97 : decode b_Heap_sameWord 97 = .ok (.ireturn, 1) := by decide +kernel
def m_Heap_truth_r (e_yes : Int32) (e_no : Int32) (b : Int32) : Int32 := if b = ((0 : Int32)) then e_no else e_yes
set_option maxHeartbeats 4000000 in
set_option maxRecDepth 100000 in
theorem c_Heap_truth (l : Launch) (dC : Nat → ClassId) (dI : Nat → Nat → Nat) (sz : Nat) (h0 : Nat) (e_lexicon : Nat) (e_yes : Int32) (e_no : Int32) (e_errorTag : Int32) (e_fixed : Int32) (e_cells : Nat) (e_spare : Nat) (e_top : Int32) (e_spareTop : Int32) (e_leftLists : Nat) (e_rightLists : Nat) (e_nextMembers : Nat) (b : Int32)  : Met l y_Heap_truth w_Heap_truth ({ frames := 0, cells := 0, slots := 0, locals := 0 }) (va_Pc [.ref h0, .int b] (fun U => U.heap.size = sz ∧ va_P (dC, dI) classes [(h0, .inr (1, [.ref e_lexicon, .int e_yes, .int e_no, .int e_errorTag, .int e_fixed, .ref e_cells, .ref e_spare, .int e_top, .int e_spareTop, .ref e_leftLists, .ref e_rightLists, .ref e_nextMembers]))] U.heap ∧ va_K (dC, dI) classes [] U ∧ va_D (fun _ => True) [(h0, .inr (1, [.ref e_lexicon, .int e_yes, .int e_no, .int e_errorTag, .int e_fixed, .ref e_cells, .ref e_spare, .int e_top, .int e_spareTop, .ref e_leftLists, .ref e_rightLists, .ref e_nextMembers]))])) (va_Qi (fun (r : Int32) (_ : Unit) => r = m_Heap_truth_r e_yes e_no b) (fun (_ : Unit) t => va_P (dC, dI) classes [(h0, .inr (1, [.ref e_lexicon, .int e_yes, .int e_no, .int e_errorTag, .int e_fixed, .ref e_cells, .ref e_spare, .int e_top, .int e_spareTop, .ref e_leftLists, .ref e_rightLists, .ref e_nextMembers]))] t.heap ∧ va_K (dC, dI) classes [] t ∧ va_D (va_A [(h0, .inr (1, [.ref e_lexicon, .int e_yes, .int e_no, .int e_errorTag, .int e_fixed, .ref e_cells, .ref e_spare, .int e_top, .int e_spareTop, .ref e_leftLists, .ref e_rightLists, .ref e_nextMembers]))] sz) [(h0, .inr (1, [.ref e_lexicon, .int e_yes, .int e_no, .int e_errorTag, .int e_fixed, .ref e_cells, .ref e_spare, .int e_top, .int e_spareTop, .ref e_leftLists, .ref e_rightLists, .ref e_nextMembers]))]) (va_A [(h0, .inr (1, [.ref e_lexicon, .int e_yes, .int e_no, .int e_errorTag, .int e_fixed, .ref e_cells, .ref e_spare, .int e_top, .int e_spareTop, .ref e_leftLists, .ref e_rightLists, .ref e_nextMembers]))] sz)) 0 0 (va_A [(h0, .inr (1, [.ref e_lexicon, .int e_yes, .int e_no, .int e_errorTag, .int e_fixed, .ref e_cells, .ref e_spare, .int e_top, .int e_spareTop, .ref e_leftLists, .ref e_rightLists, .ref e_nextMembers]))] sz) := by
  refine Met.ofW (cc := b_Heap_truth) (maxL := 2) (ret := (some .int)) (by decide) rfl ?_
  intro p e s m args below meth c s₁ B hml hv
  obtain ⟨rfl, hsz, hP, hK, hD0⟩ := hv
  have hx := B.exec
  have hb := B.bytes
  have hr := B.returns
  have hts := atoms_spec (ws := w_Heap_truth) B.pre
  have htt : ∀ w ∈ tw_T, w.before _ s = true := fun w h => hts w (List.mem_cons_of_mem _ h)
  have hown : s.vm.findClass R_Heap = some m.cls := findClass_of_methodNamed B.named
  have hlocks := B.notSynchronized
  subst hsz
  have hD := hD0.self (sz := s.heap.size)
  generalize hAe : va_A [(h0, .inr (1, [.ref e_lexicon, .int e_yes, .int e_no, .int e_errorTag, .int e_fixed, .ref e_cells, .ref e_spare, .int e_top, .int e_spareTop, .ref e_leftLists, .ref e_rightLists, .ref e_nextMembers]))] s.heap.size = A at hD ⊢
  have hA : ∀ q : Nat, s.heap.size ≤ q → A q := fun q h => by rw [← hAe]; exact Or.inr h
  have hS : va_S A s.heap s.heap [] := va_S.rf
  have hP : va_P (dC, dI) classes [(h0, .inr (1, [.ref e_lexicon, .int e_yes, .int e_no, .int e_errorTag, .int e_fixed, .ref e_cells, .ref e_spare, .int e_top, .int e_spareTop, .ref e_leftLists, .ref e_rightLists, .ref e_nextMembers]))] s.heap := hP
  have hl := lv_entry ([.ref h0, .int b]) (n := 2) (Nat.le_of_ble_eq_true rfl)
  rw [lg_entry_eq]
  generalize (lg_sl ([.ref h0, .int b]) ++ List.replicate (2 - (lg_sl ([.ref h0, .int b])).length) Slot.unset).toArray = ls at hl ⊢
  have hl : lv_has ls 2 [(0, .ref h0), (1, .int b)] := hl
  refine lv_iload_n hx hb d_Heap_truth_0 rfl (lv_at hl 1 rfl) ?_
  refine lv_if_eq (tgt := 11) hx hb d_Heap_truth_1 (by decide) (fun c_1 => ?_) (fun c_1 => ?_)
  · refine lv_aload_n hx hb d_Heap_truth_11 rfl (lv_at hl 0 rfl) ?_
    refine va_get (D := (dC, dI)) (ci := 1) (v := .int e_no) (C := R_Heap) (T := F_Heap) (N := 12) hx hb htt iw_Heap hown hK hP 0 rfl rfl 2 (by decide) (htt _ lk_Heap_46) (fun _ h9 => h9) rfl d_Heap_truth_12 ?_
    have hP9 := hP.sub (ws' := [(h0, .inr (1, [.ref e_lexicon, .int e_yes, .int e_no, .int e_errorTag, .int e_fixed, .ref e_cells, .ref e_spare, .int e_top, .int e_spareTop, .ref e_leftLists, .ref e_rightLists, .ref e_nextMembers]))]) [0] rfl
    have hD9 := hD.sub (ws' := [(h0, .inr (1, [.ref e_lexicon, .int e_yes, .int e_no, .int e_errorTag, .int e_fixed, .ref e_cells, .ref e_spare, .int e_top, .int e_spareTop, .ref e_leftLists, .ref e_rightLists, .ref e_nextMembers]))]) [0] (by decide) rfl
    exact W.iret (v := e_no) hx hb hr (fun t9 ht hW => ⟨⟨e_no, (), rfl, by unfold m_Heap_truth_r; simp only [if_pos c_1], by rw [ht]; exact hP9, va_K.moved hW.alike hK, hD9⟩, hS.F ht⟩) hS.2.2 d_Heap_truth_15
  · refine lv_aload_n hx hb d_Heap_truth_4 rfl (lv_at hl 0 rfl) ?_
    refine va_get (D := (dC, dI)) (ci := 1) (v := .int e_yes) (C := R_Heap) (T := F_Heap) (N := 12) hx hb htt iw_Heap hown hK hP 0 rfl rfl 1 (by decide) (htt _ lk_Heap_41) (fun _ h9 => h9) rfl d_Heap_truth_5 ?_
    refine lv_goto (tgt := 15) hx hb d_Heap_truth_8 (by decide) ?_
    have hP9 := hP.sub (ws' := [(h0, .inr (1, [.ref e_lexicon, .int e_yes, .int e_no, .int e_errorTag, .int e_fixed, .ref e_cells, .ref e_spare, .int e_top, .int e_spareTop, .ref e_leftLists, .ref e_rightLists, .ref e_nextMembers]))]) [0] rfl
    have hD9 := hD.sub (ws' := [(h0, .inr (1, [.ref e_lexicon, .int e_yes, .int e_no, .int e_errorTag, .int e_fixed, .ref e_cells, .ref e_spare, .int e_top, .int e_spareTop, .ref e_leftLists, .ref e_rightLists, .ref e_nextMembers]))]) [0] (by decide) rfl
    exact W.iret (v := e_yes) hx hb hr (fun t9 ht hW => ⟨⟨e_yes, (), rfl, by unfold m_Heap_truth_r; simp only [if_neg c_1], by rw [ht]; exact hP9, va_K.moved hW.alike hK, hD9⟩, hS.F ht⟩) hS.2.2 d_Heap_truth_15

def m_Heap_count_r (e_cells_v : Nat → Int32) (cl : Nat) (v : Int32) : Int32 := if ((v &&& 3)) = ((1 : Int32)) then if (v >>> (2 &&& 31)) ≤ ((0 : Int32)) then 0 else if ((nI cl)) ≤ (v >>> (2 &&& 31)) then 0 else (e_cells_v (v >>> (2 &&& 31)).toNatClampNeg) &&& 8191 else 0
set_option maxHeartbeats 4000000 in
set_option maxRecDepth 100000 in
theorem c_Heap_count (l : Launch) (dC : Nat → ClassId) (dI : Nat → Nat → Nat) (sz : Nat) (h0 : Nat) (e_lexicon : Nat) (e_yes : Int32) (e_no : Int32) (e_errorTag : Int32) (e_fixed : Int32) (e_cells : Nat) (e_spare : Nat) (e_top : Int32) (e_spareTop : Int32) (e_leftLists : Nat) (e_rightLists : Nat) (e_nextMembers : Nat) (e_cells_v : Nat → Int32) (cI : ClassId) (cl : Nat) (v : Int32) (hcl : cl ≤ 340000) : Met l y_Heap_count w_Heap_count ({ frames := 0, cells := 0, slots := 0, locals := 0 }) (va_Pc [.ref h0, .int v] (fun U => U.heap.size = sz ∧ va_P (dC, dI) classes [(h0, .inr (1, [.ref e_lexicon, .int e_yes, .int e_no, .int e_errorTag, .int e_fixed, .ref e_cells, .ref e_spare, .int e_top, .int e_spareTop, .ref e_leftLists, .ref e_rightLists, .ref e_nextMembers])), (e_cells, .inl (cI, cl, .inl e_cells_v))] U.heap ∧ va_K (dC, dI) classes [(cI, .int)] U ∧ va_D (fun _ => True) [(h0, .inr (1, [.ref e_lexicon, .int e_yes, .int e_no, .int e_errorTag, .int e_fixed, .ref e_cells, .ref e_spare, .int e_top, .int e_spareTop, .ref e_leftLists, .ref e_rightLists, .ref e_nextMembers])), (e_cells, .inl (cI, cl, .inl e_cells_v))])) (va_Qi (fun (r : Int32) (_ : Unit) => r = m_Heap_count_r e_cells_v cl v) (fun (_ : Unit) t => va_P (dC, dI) classes [(h0, .inr (1, [.ref e_lexicon, .int e_yes, .int e_no, .int e_errorTag, .int e_fixed, .ref e_cells, .ref e_spare, .int e_top, .int e_spareTop, .ref e_leftLists, .ref e_rightLists, .ref e_nextMembers])), (e_cells, .inl (cI, cl, .inl e_cells_v))] t.heap ∧ va_K (dC, dI) classes [(cI, .int)] t ∧ va_D (va_A [(h0, .inr (1, [.ref e_lexicon, .int e_yes, .int e_no, .int e_errorTag, .int e_fixed, .ref e_cells, .ref e_spare, .int e_top, .int e_spareTop, .ref e_leftLists, .ref e_rightLists, .ref e_nextMembers])), (e_cells, .inl (cI, cl, .inl e_cells_v))] sz) [(h0, .inr (1, [.ref e_lexicon, .int e_yes, .int e_no, .int e_errorTag, .int e_fixed, .ref e_cells, .ref e_spare, .int e_top, .int e_spareTop, .ref e_leftLists, .ref e_rightLists, .ref e_nextMembers])), (e_cells, .inl (cI, cl, .inl e_cells_v))]) (va_A [(h0, .inr (1, [.ref e_lexicon, .int e_yes, .int e_no, .int e_errorTag, .int e_fixed, .ref e_cells, .ref e_spare, .int e_top, .int e_spareTop, .ref e_leftLists, .ref e_rightLists, .ref e_nextMembers])), (e_cells, .inl (cI, cl, .inl e_cells_v))] sz)) 0 0 (va_A [(h0, .inr (1, [.ref e_lexicon, .int e_yes, .int e_no, .int e_errorTag, .int e_fixed, .ref e_cells, .ref e_spare, .int e_top, .int e_spareTop, .ref e_leftLists, .ref e_rightLists, .ref e_nextMembers])), (e_cells, .inl (cI, cl, .inl e_cells_v))] sz) := by
  refine Met.ofW (cc := b_Heap_count) (maxL := 3) (ret := (some .int)) (by decide) rfl ?_
  intro p e s m args below meth c s₁ B hml hv
  obtain ⟨rfl, hsz, hP, hK, hD0⟩ := hv
  have hx := B.exec
  have hb := B.bytes
  have hr := B.returns
  have hts := atoms_spec (ws := w_Heap_count) B.pre
  have htt : ∀ w ∈ tw_T, w.before _ s = true := fun w h => hts w (List.mem_cons_of_mem _ h)
  have hown : s.vm.findClass R_Heap = some m.cls := findClass_of_methodNamed B.named
  have hlocks := B.notSynchronized
  subst hsz
  have hD := hD0.self (sz := s.heap.size)
  generalize hAe : va_A [(h0, .inr (1, [.ref e_lexicon, .int e_yes, .int e_no, .int e_errorTag, .int e_fixed, .ref e_cells, .ref e_spare, .int e_top, .int e_spareTop, .ref e_leftLists, .ref e_rightLists, .ref e_nextMembers])), (e_cells, .inl (cI, cl, .inl e_cells_v))] s.heap.size = A at hD ⊢
  have hA : ∀ q : Nat, s.heap.size ≤ q → A q := fun q h => by rw [← hAe]; exact Or.inr h
  have hS : va_S A s.heap s.heap [] := va_S.rf
  have hP : va_P (dC, dI) classes [(h0, .inr (1, [.ref e_lexicon, .int e_yes, .int e_no, .int e_errorTag, .int e_fixed, .ref e_cells, .ref e_spare, .int e_top, .int e_spareTop, .ref e_leftLists, .ref e_rightLists, .ref e_nextMembers])), (e_cells, .inl (cI, cl, .inl e_cells_v))] s.heap := hP
  have hl := lv_entry ([.ref h0, .int v]) (n := 3) (Nat.le_of_ble_eq_true rfl)
  rw [lg_entry_eq]
  generalize (lg_sl ([.ref h0, .int v]) ++ List.replicate (3 - (lg_sl ([.ref h0, .int v])).length) Slot.unset).toArray = ls at hl ⊢
  have hl : lv_has ls 3 [(0, .ref h0), (1, .int v)] := hl
  refine lv_iload_n hx hb d_Heap_count_0 rfl (lv_at hl 1 rfl) ?_
  refine lv_iconst (v := 2) hx hb d_Heap_count_1 (by decide) ?_
  refine lv_ishr hx hb d_Heap_count_2 ?_
  refine lv_topi (fun x_1 ex_1 => ?_)
  refine lv_istore_n (lv' := [(2, .int x_1), (0, .ref h0), (1, .int v)]) hx hb d_Heap_count_3 rfl hl (by decide) rfl (fun ls hl => ?_)
  refine lv_iload_n hx hb d_Heap_count_4 rfl (lv_at hl 2 rfl) ?_
  refine lv_iconst (v := 3) hx hb d_Heap_count_5 (by decide) ?_
  refine lv_iand hx hb d_Heap_count_6 ?_
  refine lv_iconst (v := 1) hx hb d_Heap_count_7 (by decide) ?_
  refine lv_icmp_ne (tgt := 37) hx hb d_Heap_count_8 (by decide) (fun c_2 => ?_) (fun c_2 => ?_)
  · refine lv_iconst (v := 0) hx hb d_Heap_count_37 (by decide) ?_
    subst ex_1
    have hP9 := hP.sub (ws' := [(h0, .inr (1, [.ref e_lexicon, .int e_yes, .int e_no, .int e_errorTag, .int e_fixed, .ref e_cells, .ref e_spare, .int e_top, .int e_spareTop, .ref e_leftLists, .ref e_rightLists, .ref e_nextMembers])), (e_cells, .inl (cI, cl, .inl e_cells_v))]) [0, 1] rfl
    have hD9 := hD.sub (ws' := [(h0, .inr (1, [.ref e_lexicon, .int e_yes, .int e_no, .int e_errorTag, .int e_fixed, .ref e_cells, .ref e_spare, .int e_top, .int e_spareTop, .ref e_leftLists, .ref e_rightLists, .ref e_nextMembers])), (e_cells, .inl (cI, cl, .inl e_cells_v))]) [0, 1] (by decide) rfl
    exact W.iret (v := 0) hx hb hr (fun t9 ht hW => ⟨⟨0, (), rfl, by unfold m_Heap_count_r; simp only [if_neg c_2], by rw [ht]; exact hP9, va_K.moved hW.alike hK, hD9⟩, hS.F ht⟩) hS.2.2 d_Heap_count_38
  · refine lv_iload_n hx hb d_Heap_count_11 rfl (lv_at hl 0 rfl) ?_
    refine lv_if_le (tgt := 37) hx hb d_Heap_count_12 (by decide) (fun c_3 => ?_) (fun c_3 => ?_)
    · refine lv_iconst (v := 0) hx hb d_Heap_count_37 (by decide) ?_
      subst ex_1
      have hP9 := hP.sub (ws' := [(h0, .inr (1, [.ref e_lexicon, .int e_yes, .int e_no, .int e_errorTag, .int e_fixed, .ref e_cells, .ref e_spare, .int e_top, .int e_spareTop, .ref e_leftLists, .ref e_rightLists, .ref e_nextMembers])), (e_cells, .inl (cI, cl, .inl e_cells_v))]) [0, 1] rfl
      have hD9 := hD.sub (ws' := [(h0, .inr (1, [.ref e_lexicon, .int e_yes, .int e_no, .int e_errorTag, .int e_fixed, .ref e_cells, .ref e_spare, .int e_top, .int e_spareTop, .ref e_leftLists, .ref e_rightLists, .ref e_nextMembers])), (e_cells, .inl (cI, cl, .inl e_cells_v))]) [0, 1] (by decide) rfl
      exact W.iret (v := 0) hx hb hr (fun t9 ht hW => ⟨⟨0, (), rfl, by unfold m_Heap_count_r; simp only [if_pos c_2, if_pos c_3], by rw [ht]; exact hP9, va_K.moved hW.alike hK, hD9⟩, hS.F ht⟩) hS.2.2 d_Heap_count_38
    · refine lv_iload_n hx hb d_Heap_count_15 rfl (lv_at hl 0 rfl) ?_
      refine lv_aload_n hx hb d_Heap_count_16 rfl (lv_at hl 1 rfl) ?_
      refine va_get (D := (dC, dI)) (ci := 1) (v := .ref e_cells) (C := R_Heap) (T := F_Heap) (N := 12) hx hb htt iw_Heap hown hK hP 0 rfl rfl 5 (by decide) (htt _ lk_Heap_11) (fun _ h9 => h9) rfl d_Heap_count_17 ?_
      refine va_alen (v := nI cl) hx hb hK hP 1 0 rfl rfl rfl d_Heap_count_20 ?_
      refine lv_icmp_ge (tgt := 37) hx hb d_Heap_count_21 (by decide) (fun c_4 => ?_) (fun c_4 => ?_)
      · refine lv_iconst (v := 0) hx hb d_Heap_count_37 (by decide) ?_
        subst ex_1
        have hP9 := hP.sub (ws' := [(h0, .inr (1, [.ref e_lexicon, .int e_yes, .int e_no, .int e_errorTag, .int e_fixed, .ref e_cells, .ref e_spare, .int e_top, .int e_spareTop, .ref e_leftLists, .ref e_rightLists, .ref e_nextMembers])), (e_cells, .inl (cI, cl, .inl e_cells_v))]) [0, 1] rfl
        have hD9 := hD.sub (ws' := [(h0, .inr (1, [.ref e_lexicon, .int e_yes, .int e_no, .int e_errorTag, .int e_fixed, .ref e_cells, .ref e_spare, .int e_top, .int e_spareTop, .ref e_leftLists, .ref e_rightLists, .ref e_nextMembers])), (e_cells, .inl (cI, cl, .inl e_cells_v))]) [0, 1] (by decide) rfl
        exact W.iret (v := 0) hx hb hr (fun t9 ht hW => ⟨⟨0, (), rfl, by unfold m_Heap_count_r; simp only [if_pos c_2, if_neg c_3, if_pos c_4], by rw [ht]; exact hP9, va_K.moved hW.alike hK, hD9⟩, hS.F ht⟩) hS.2.2 d_Heap_count_38
      · refine lv_aload_n hx hb d_Heap_count_24 rfl (lv_at hl 1 rfl) ?_
        refine va_get (D := (dC, dI)) (ci := 1) (v := .ref e_cells) (C := R_Heap) (T := F_Heap) (N := 12) hx hb htt iw_Heap hown hK hP 0 rfl rfl 5 (by decide) (htt _ lk_Heap_11) (fun _ h9 => h9) rfl d_Heap_count_25 ?_
        refine lv_iload_n hx hb d_Heap_count_28 rfl (lv_at hl 0 rfl) ?_
        have h_5 : vp_in x_1 cl := by rw [vp_in_iff]; simp only [Int32.lt_iff_toInt_lt, Int32.le_iff_toInt_le, Int32.reduceToInt, nI_toInt (show cl < 2 ^ 31 by omega)] at c_2 c_3 c_4 ⊢; omega
        refine va_iald hx hb hK hP 1 0 rfl rfl h_5 d_Heap_count_29 ?_
        refine lv_sipush (v := 8191) hx hb d_Heap_count_30 (by decide) ?_
        refine lv_iand hx hb d_Heap_count_33 ?_
        refine lv_goto (tgt := 38) hx hb d_Heap_count_34 (by decide) ?_
        subst ex_1
        have hP9 := hP.sub (ws' := [(h0, .inr (1, [.ref e_lexicon, .int e_yes, .int e_no, .int e_errorTag, .int e_fixed, .ref e_cells, .ref e_spare, .int e_top, .int e_spareTop, .ref e_leftLists, .ref e_rightLists, .ref e_nextMembers])), (e_cells, .inl (cI, cl, .inl e_cells_v))]) [0, 1] rfl
        have hD9 := hD.sub (ws' := [(h0, .inr (1, [.ref e_lexicon, .int e_yes, .int e_no, .int e_errorTag, .int e_fixed, .ref e_cells, .ref e_spare, .int e_top, .int e_spareTop, .ref e_leftLists, .ref e_rightLists, .ref e_nextMembers])), (e_cells, .inl (cI, cl, .inl e_cells_v))]) [0, 1] (by decide) rfl
        exact W.iret (v := (e_cells_v (v >>> (2 &&& 31)).toNatClampNeg) &&& 8191) hx hb hr (fun t9 ht hW => ⟨⟨(e_cells_v (v >>> (2 &&& 31)).toNatClampNeg) &&& 8191, (), rfl, by unfold m_Heap_count_r; simp only [if_pos c_2, if_neg c_3, if_neg c_4], by rw [ht]; exact hP9, va_K.moved hW.alike hK, hD9⟩, hS.F ht⟩) hS.2.2 d_Heap_count_38

theorem hm_in {cl : Nat} {f : Nat → Int32} {v k : Int32} (hcl : cl ≤ 340000) (h0 : ¬ k < 0) (h1 : ¬ m_Heap_count_r f cl v ≤ k) (h2 : ¬ nI cl ≤ v >>> (2 &&& 31) + 1 + k) : vp_in (v >>> (2 &&& 31) + 1 + k) cl := by
  unfold m_Heap_count_r at h1
  by_cases a : v &&& 3 = 1
  · rw [if_pos a] at h1
    by_cases b : v >>> (2 &&& 31) ≤ 0
    · rw [if_pos b] at h1; exact absurd (Int32.not_lt.mp h0) h1
    · rw [if_neg b] at h1
      by_cases c : nI cl ≤ v >>> (2 &&& 31)
      · rw [if_pos c] at h1; exact absurd (Int32.not_lt.mp h0) h1
      · rw [if_neg c] at h1
        obtain ⟨j, hj, e⟩ := pk_andE (f (v >>> (2 &&& 31)).toNatClampNeg) (m := 8191) 13 (by decide)
        rw [e] at h1
        generalize v >>> (2 &&& 31) = q at b c h2 ⊢
        simp only [Int32.lt_iff_toInt_lt, Int32.le_iff_toInt_le, Int32.reduceToInt, nI_toInt (show cl < 2 ^ 31 by omega), nI_toInt (show j < 2 ^ 31 by omega)] at h0 h1 b c h2
        have e1 : (q + 1).toInt = q.toInt + 1 := up_step (by omega)
        have e2 : (q + 1 + k).toInt = q.toInt + 1 + k.toInt := by rw [i32_add (by rw [e1]; omega) (by rw [e1]; omega), e1]
        rw [vp_in_iff]; rw [e2] at h2 ⊢; omega
  · rw [if_neg a] at h1; exact absurd (Int32.not_lt.mp h0) h1
theorem sh2_le (v : Int32) : (v >>> (2 &&& 31)).toInt ≤ 536870911 := by
  rw [show ((2 : Int32) &&& 31) = 2 from by decide, pk_shr v 2 2 (by decide)]
  have := Int32.toInt_lt v
  rw [Int.shiftRight_eq_div_pow]; omega

def m_Heap_member_r (e_cells_v : Nat → Int32) (cl : Nat) (v : Int32) (k : Int32) : Int32 := if k < ((0 : Int32)) then (-2147483648) else if ((m_Heap_count_r e_cells_v cl v)) ≤ k then (-2147483648) else if ((nI cl)) ≤ (((v >>> (2 &&& 31)) + 1) + k) then (-2147483648) else e_cells_v (((v >>> (2 &&& 31)) + 1) + k).toNatClampNeg
set_option maxHeartbeats 4000000 in
set_option maxRecDepth 100000 in
theorem c_Heap_member (l : Launch) (dC : Nat → ClassId) (dI : Nat → Nat → Nat) (sz : Nat) (h0 : Nat) (e_lexicon : Nat) (e_yes : Int32) (e_no : Int32) (e_errorTag : Int32) (e_fixed : Int32) (e_cells : Nat) (e_spare : Nat) (e_top : Int32) (e_spareTop : Int32) (e_leftLists : Nat) (e_rightLists : Nat) (e_nextMembers : Nat) (e_cells_v : Nat → Int32) (cI : ClassId) (cl : Nat) (v : Int32) (k : Int32) (hcl : cl ≤ 340000) : Met l y_Heap_member w_Heap_member ({ frames := 1, cells := 0, slots := 0, locals := 22 }) (va_Pc [.ref h0, .int v, .int k] (fun U => U.heap.size = sz ∧ va_P (dC, dI) classes [(h0, .inr (1, [.ref e_lexicon, .int e_yes, .int e_no, .int e_errorTag, .int e_fixed, .ref e_cells, .ref e_spare, .int e_top, .int e_spareTop, .ref e_leftLists, .ref e_rightLists, .ref e_nextMembers])), (e_cells, .inl (cI, cl, .inl e_cells_v))] U.heap ∧ va_K (dC, dI) classes [(cI, .int)] U ∧ va_D (fun _ => True) [(h0, .inr (1, [.ref e_lexicon, .int e_yes, .int e_no, .int e_errorTag, .int e_fixed, .ref e_cells, .ref e_spare, .int e_top, .int e_spareTop, .ref e_leftLists, .ref e_rightLists, .ref e_nextMembers])), (e_cells, .inl (cI, cl, .inl e_cells_v))])) (va_Qi (fun (r : Int32) (_ : Unit) => r = m_Heap_member_r e_cells_v cl v k) (fun (_ : Unit) t => va_P (dC, dI) classes [(h0, .inr (1, [.ref e_lexicon, .int e_yes, .int e_no, .int e_errorTag, .int e_fixed, .ref e_cells, .ref e_spare, .int e_top, .int e_spareTop, .ref e_leftLists, .ref e_rightLists, .ref e_nextMembers])), (e_cells, .inl (cI, cl, .inl e_cells_v))] t.heap ∧ va_K (dC, dI) classes [(cI, .int)] t ∧ va_D (va_A [(h0, .inr (1, [.ref e_lexicon, .int e_yes, .int e_no, .int e_errorTag, .int e_fixed, .ref e_cells, .ref e_spare, .int e_top, .int e_spareTop, .ref e_leftLists, .ref e_rightLists, .ref e_nextMembers])), (e_cells, .inl (cI, cl, .inl e_cells_v))] sz) [(h0, .inr (1, [.ref e_lexicon, .int e_yes, .int e_no, .int e_errorTag, .int e_fixed, .ref e_cells, .ref e_spare, .int e_top, .int e_spareTop, .ref e_leftLists, .ref e_rightLists, .ref e_nextMembers])), (e_cells, .inl (cI, cl, .inl e_cells_v))]) (va_A [(h0, .inr (1, [.ref e_lexicon, .int e_yes, .int e_no, .int e_errorTag, .int e_fixed, .ref e_cells, .ref e_spare, .int e_top, .int e_spareTop, .ref e_leftLists, .ref e_rightLists, .ref e_nextMembers])), (e_cells, .inl (cI, cl, .inl e_cells_v))] sz)) 0 0 (va_A [(h0, .inr (1, [.ref e_lexicon, .int e_yes, .int e_no, .int e_errorTag, .int e_fixed, .ref e_cells, .ref e_spare, .int e_top, .int e_spareTop, .ref e_leftLists, .ref e_rightLists, .ref e_nextMembers])), (e_cells, .inl (cI, cl, .inl e_cells_v))] sz) := by
  refine Met.ofW (cc := b_Heap_member) (maxL := 4) (ret := (some .int)) (by decide) rfl ?_
  intro p e s m args below meth c s₁ B hml hv
  obtain ⟨rfl, hsz, hP, hK, hD0⟩ := hv
  have hx := B.exec
  have hb := B.bytes
  have hr := B.returns
  have hts := atoms_spec (ws := w_Heap_member) B.pre
  have htt : ∀ w ∈ tw_T, w.before _ s = true := fun w h => hts w (List.mem_cons_of_mem _ h)
  have hown : s.vm.findClass R_Heap = some m.cls := findClass_of_methodNamed B.named
  have hlocks := B.notSynchronized
  subst hsz
  have hD := hD0.self (sz := s.heap.size)
  generalize hAe : va_A [(h0, .inr (1, [.ref e_lexicon, .int e_yes, .int e_no, .int e_errorTag, .int e_fixed, .ref e_cells, .ref e_spare, .int e_top, .int e_spareTop, .ref e_leftLists, .ref e_rightLists, .ref e_nextMembers])), (e_cells, .inl (cI, cl, .inl e_cells_v))] s.heap.size = A at hD ⊢
  have hA : ∀ q : Nat, s.heap.size ≤ q → A q := fun q h => by rw [← hAe]; exact Or.inr h
  have hS : va_S A s.heap s.heap [] := va_S.rf
  have hP : va_P (dC, dI) classes [(h0, .inr (1, [.ref e_lexicon, .int e_yes, .int e_no, .int e_errorTag, .int e_fixed, .ref e_cells, .ref e_spare, .int e_top, .int e_spareTop, .ref e_leftLists, .ref e_rightLists, .ref e_nextMembers])), (e_cells, .inl (cI, cl, .inl e_cells_v))] s.heap := hP
  have hl := lv_entry ([.ref h0, .int v, .int k]) (n := 4) (Nat.le_of_ble_eq_true rfl)
  rw [lg_entry_eq]
  generalize (lg_sl ([.ref h0, .int v, .int k]) ++ List.replicate (4 - (lg_sl ([.ref h0, .int v, .int k])).length) Slot.unset).toArray = ls at hl ⊢
  have hl : lv_has ls 4 [(0, .ref h0), (1, .int v), (2, .int k)] := hl
  refine lv_iload_n hx hb d_Heap_member_0 rfl (lv_at hl 1 rfl) ?_
  refine lv_iconst (v := 2) hx hb d_Heap_member_1 (by decide) ?_
  refine lv_ishr hx hb d_Heap_member_2 ?_
  refine lv_iconst (v := 1) hx hb d_Heap_member_3 (by decide) ?_
  refine lv_iadd hx hb d_Heap_member_4 ?_
  refine lv_iload_n hx hb d_Heap_member_5 rfl (lv_at hl 2 rfl) ?_
  refine lv_iadd hx hb d_Heap_member_6 ?_
  refine lv_topi (fun x_1 ex_1 => ?_)
  refine lv_istore_n (lv' := [(3, .int x_1), (0, .ref h0), (1, .int v), (2, .int k)]) hx hb d_Heap_member_7 rfl hl (by decide) rfl (fun ls hl => ?_)
  refine lv_iload_n hx hb d_Heap_member_8 rfl (lv_at hl 3 rfl) ?_
  refine lv_if_lt (tgt := 39) hx hb d_Heap_member_9 (by decide) (fun c_2 => ?_) (fun c_2 => ?_)
  · refine lv_ldc (v := (-2147483648)) hx hb hown (htt _ lk_Heap_71) d_Heap_member_39 ?_
    subst ex_1
    have hP9 := hP.sub (ws' := [(h0, .inr (1, [.ref e_lexicon, .int e_yes, .int e_no, .int e_errorTag, .int e_fixed, .ref e_cells, .ref e_spare, .int e_top, .int e_spareTop, .ref e_leftLists, .ref e_rightLists, .ref e_nextMembers])), (e_cells, .inl (cI, cl, .inl e_cells_v))]) [0, 1] rfl
    have hD9 := hD.sub (ws' := [(h0, .inr (1, [.ref e_lexicon, .int e_yes, .int e_no, .int e_errorTag, .int e_fixed, .ref e_cells, .ref e_spare, .int e_top, .int e_spareTop, .ref e_leftLists, .ref e_rightLists, .ref e_nextMembers])), (e_cells, .inl (cI, cl, .inl e_cells_v))]) [0, 1] (by decide) rfl
    exact W.iret (v := (-2147483648)) hx hb hr (fun t9 ht hW => ⟨⟨(-2147483648), (), rfl, by unfold m_Heap_member_r; simp only [if_pos c_2], by rw [ht]; exact hP9, va_K.moved hW.alike hK, hD9⟩, hS.F ht⟩) hS.2.2 d_Heap_member_41
  · refine lv_iload_n hx hb d_Heap_member_12 rfl (lv_at hl 3 rfl) ?_
    refine lv_aload_n hx hb d_Heap_member_13 rfl (lv_at hl 1 rfl) ?_
    refine lv_iload_n hx hb d_Heap_member_14 rfl (lv_at hl 2 rfl) ?_
    have hPc := hP.sub (ws' := [(h0, .inr (1, [.ref e_lexicon, .int e_yes, .int e_no, .int e_errorTag, .int e_fixed, .ref e_cells, .ref e_spare, .int e_top, .int e_spareTop, .ref e_leftLists, .ref e_rightLists, .ref e_nextMembers])), (e_cells, .inl (cI, cl, .inl e_cells_v))]) [0, 1] rfl
    have hDc := hD.sub (ws' := [(h0, .inr (1, [.ref e_lexicon, .int e_yes, .int e_no, .int e_errorTag, .int e_fixed, .ref e_cells, .ref e_spare, .int e_top, .int e_spareTop, .ref e_leftLists, .ref e_rightLists, .ref e_nextMembers])), (e_cells, .inl (cI, cl, .inl e_cells_v))]) [0, 1] (by decide) rfl
    have hKc := hK.sub (tys' := [(cI, .int)]) [0] rfl
    have hFc := va_free (wc := [(h0, .inr (1, [.ref e_lexicon, .int e_yes, .int e_no, .int e_errorTag, .int e_fixed, .ref e_cells, .ref e_spare, .int e_top, .int e_spareTop, .ref e_leftLists, .ref e_rightLists, .ref e_nextMembers])), (e_cells, .inl (cI, cl, .inl e_cells_v))]) hD hS hA [0, 1] rfl
    refine va_calli (va_runV (As := [.int v]) (rest := [.int k]) ⟨hx, hb, hml, hown, hts⟩ (c_Heap_count l dC dI s.heap.size h0 e_lexicon e_yes e_no e_errorTag e_fixed e_cells e_spare e_top e_spareTop e_leftLists e_rightLists e_nextMembers e_cells_v cI cl v (by assumption)) (cwV 1 hts (tw_GV tw_cons cw_Heap_count lk_Heap_125 in_Heap_count sel_Heap_count ini_Heap) rfl rfl rfl (by decide +kernel) ⟨Nat.le_of_ble_eq_true rfl, Nat.le_of_ble_eq_true rfl⟩) ⟨fun a U g mk q => by obtain ⟨q0, q1, qP, qK, qD⟩ := q; exact ⟨q0, q1, qP, va_K.moved (u := U) (U := U.calling g mk a) (Vm.Alike.refl U.vm) qK, qD⟩, va_recv hKc hPc (ci := 1) (q0 := 0) rfl rfl, fun U hU hW => ⟨rfl, by rw [hU], by rw [hU]; exact hPc, va_K.moved hW.alike hKc, hDc.weaken (fun _ _ _ _ => trivial)⟩⟩ rfl rfl hl.1 rfl (lv_room (Nat.le_of_ble_eq_true rfl)) d_Heap_member_15 ⟨Nat.le_of_ble_eq_true rfl, Nat.le_of_ble_eq_true rfl⟩) hS (fun q _ h => hFc q h) hFc (fun r9 u9 t9 H1 locs ht hvm e9 hB hz1 hk1 hS => ?_)
    obtain ⟨hP1, hK1, hD1⟩ := hB
    rw [ht] at hP1
    obtain ⟨hP, hD⟩ := va_join (wr := []) (w1 := [(h0, .inr (1, [.ref e_lexicon, .int e_yes, .int e_no, .int e_errorTag, .int e_fixed, .ref e_cells, .ref e_spare, .int e_top, .int e_spareTop, .ref e_leftLists, .ref e_rightLists, .ref e_nextMembers])), (e_cells, .inl (cI, cl, .inl e_cells_v))]) hP hD [0, 1] [] rfl rfl (by decide) (by decide) hk1 hFc hP1 hD1
    subst e9
    clear hP1 hD1 hK1 hvm hz1 hk1 hFc hKc hDc hPc
    subst ht
    generalize t9.heap = H at hP hS ⊢
    have hP : va_P (dC, dI) classes [(h0, .inr (1, [.ref e_lexicon, .int e_yes, .int e_no, .int e_errorTag, .int e_fixed, .ref e_cells, .ref e_spare, .int e_top, .int e_spareTop, .ref e_leftLists, .ref e_rightLists, .ref e_nextMembers])), (e_cells, .inl (cI, cl, .inl e_cells_v))] H := hP
    have hD : va_D A [(h0, .inr (1, [.ref e_lexicon, .int e_yes, .int e_no, .int e_errorTag, .int e_fixed, .ref e_cells, .ref e_spare, .int e_top, .int e_spareTop, .ref e_leftLists, .ref e_rightLists, .ref e_nextMembers])), (e_cells, .inl (cI, cl, .inl e_cells_v))] := hD
    refine lv_icmp_ge (tgt := 39) hx hb d_Heap_member_18 (by decide) (fun c_3 => ?_) (fun c_3 => ?_)
    · refine lv_ldc (v := (-2147483648)) hx hb hown (htt _ lk_Heap_71) d_Heap_member_39 ?_
      subst ex_1
      have hP9 := hP.sub (ws' := [(h0, .inr (1, [.ref e_lexicon, .int e_yes, .int e_no, .int e_errorTag, .int e_fixed, .ref e_cells, .ref e_spare, .int e_top, .int e_spareTop, .ref e_leftLists, .ref e_rightLists, .ref e_nextMembers])), (e_cells, .inl (cI, cl, .inl e_cells_v))]) [0, 1] rfl
      have hD9 := hD.sub (ws' := [(h0, .inr (1, [.ref e_lexicon, .int e_yes, .int e_no, .int e_errorTag, .int e_fixed, .ref e_cells, .ref e_spare, .int e_top, .int e_spareTop, .ref e_leftLists, .ref e_rightLists, .ref e_nextMembers])), (e_cells, .inl (cI, cl, .inl e_cells_v))]) [0, 1] (by decide) rfl
      exact W.iret (v := (-2147483648)) hx hb hr (fun t9 ht hW => ⟨⟨(-2147483648), (), rfl, by unfold m_Heap_member_r; simp only [if_neg c_2, if_pos c_3], by rw [ht]; exact hP9, va_K.moved hW.alike hK, hD9⟩, hS.F ht⟩) hS.2.2 d_Heap_member_41
    · refine lv_iload_n hx hb d_Heap_member_21 rfl (lv_at hl 0 rfl) ?_
      refine lv_aload_n hx hb d_Heap_member_22 rfl (lv_at hl 1 rfl) ?_
      refine va_get (D := (dC, dI)) (ci := 1) (v := .ref e_cells) (C := R_Heap) (T := F_Heap) (N := 12) hx hb htt iw_Heap hown hK hP 0 rfl rfl 5 (by decide) (htt _ lk_Heap_11) (fun _ h9 => h9) rfl d_Heap_member_23 ?_
      refine va_alen (v := nI cl) hx hb hK hP 1 0 rfl rfl rfl d_Heap_member_26 ?_
      refine lv_icmp_ge (tgt := 39) hx hb d_Heap_member_27 (by decide) (fun c_4 => ?_) (fun c_4 => ?_)
      · refine lv_ldc (v := (-2147483648)) hx hb hown (htt _ lk_Heap_71) d_Heap_member_39 ?_
        subst ex_1
        have hP9 := hP.sub (ws' := [(h0, .inr (1, [.ref e_lexicon, .int e_yes, .int e_no, .int e_errorTag, .int e_fixed, .ref e_cells, .ref e_spare, .int e_top, .int e_spareTop, .ref e_leftLists, .ref e_rightLists, .ref e_nextMembers])), (e_cells, .inl (cI, cl, .inl e_cells_v))]) [0, 1] rfl
        have hD9 := hD.sub (ws' := [(h0, .inr (1, [.ref e_lexicon, .int e_yes, .int e_no, .int e_errorTag, .int e_fixed, .ref e_cells, .ref e_spare, .int e_top, .int e_spareTop, .ref e_leftLists, .ref e_rightLists, .ref e_nextMembers])), (e_cells, .inl (cI, cl, .inl e_cells_v))]) [0, 1] (by decide) rfl
        exact W.iret (v := (-2147483648)) hx hb hr (fun t9 ht hW => ⟨⟨(-2147483648), (), rfl, by unfold m_Heap_member_r; simp only [if_neg c_2, if_neg c_3, if_pos c_4], by rw [ht]; exact hP9, va_K.moved hW.alike hK, hD9⟩, hS.F ht⟩) hS.2.2 d_Heap_member_41
      · refine lv_aload_n hx hb d_Heap_member_30 rfl (lv_at hl 1 rfl) ?_
        refine va_get (D := (dC, dI)) (ci := 1) (v := .ref e_cells) (C := R_Heap) (T := F_Heap) (N := 12) hx hb htt iw_Heap hown hK hP 0 rfl rfl 5 (by decide) (htt _ lk_Heap_11) (fun _ h9 => h9) rfl d_Heap_member_31 ?_
        refine lv_iload_n hx hb d_Heap_member_34 rfl (lv_at hl 0 rfl) ?_
        have h_5 : vp_in x_1 cl := by rw [ex_1] at c_4 ⊢; exact hm_in hcl c_2 c_3 c_4
        refine va_iald hx hb hK hP 1 0 rfl rfl h_5 d_Heap_member_35 ?_
        refine lv_goto (tgt := 41) hx hb d_Heap_member_36 (by decide) ?_
        subst ex_1
        have hP9 := hP.sub (ws' := [(h0, .inr (1, [.ref e_lexicon, .int e_yes, .int e_no, .int e_errorTag, .int e_fixed, .ref e_cells, .ref e_spare, .int e_top, .int e_spareTop, .ref e_leftLists, .ref e_rightLists, .ref e_nextMembers])), (e_cells, .inl (cI, cl, .inl e_cells_v))]) [0, 1] rfl
        have hD9 := hD.sub (ws' := [(h0, .inr (1, [.ref e_lexicon, .int e_yes, .int e_no, .int e_errorTag, .int e_fixed, .ref e_cells, .ref e_spare, .int e_top, .int e_spareTop, .ref e_leftLists, .ref e_rightLists, .ref e_nextMembers])), (e_cells, .inl (cI, cl, .inl e_cells_v))]) [0, 1] (by decide) rfl
        exact W.iret (v := e_cells_v (((v >>> (2 &&& 31)) + 1) + k).toNatClampNeg) hx hb hr (fun t9 ht hW => ⟨⟨e_cells_v (((v >>> (2 &&& 31)) + 1) + k).toNatClampNeg, (), rfl, by unfold m_Heap_member_r; simp only [if_neg c_2, if_neg c_3, if_neg c_4], by rw [ht]; exact hP9, va_K.moved hW.alike hK, hD9⟩, hS.F ht⟩) hS.2.2 d_Heap_member_41

def m_Heap_putMember_w1 (e_cells_v : Nat → Int32) (cl : Nat) (v : Int32) (k : Int32) (to : Int32) : Nat → Int32 := if k < ((0 : Int32)) then e_cells_v else if ((m_Heap_count_r e_cells_v cl v)) ≤ k then e_cells_v else if ((nI cl)) ≤ (((v >>> (2 &&& 31)) + 1) + k) then e_cells_v else upd e_cells_v (((v >>> (2 &&& 31)) + 1) + k).toNatClampNeg to
set_option maxHeartbeats 4000000 in
set_option maxRecDepth 100000 in
theorem c_Heap_putMember (l : Launch) (dC : Nat → ClassId) (dI : Nat → Nat → Nat) (sz : Nat) (h0 : Nat) (e_lexicon : Nat) (e_yes : Int32) (e_no : Int32) (e_errorTag : Int32) (e_fixed : Int32) (e_cells : Nat) (e_spare : Nat) (e_top : Int32) (e_spareTop : Int32) (e_leftLists : Nat) (e_rightLists : Nat) (e_nextMembers : Nat) (e_cells_v : Nat → Int32) (cI : ClassId) (cl : Nat) (v : Int32) (k : Int32) (to : Int32) (hcl : cl ≤ 340000) : Met l y_Heap_putMember w_Heap_putMember ({ frames := 1, cells := 0, slots := 0, locals := 22 }) (va_Pc [.ref h0, .int v, .int k, .int to] (fun U => U.heap.size = sz ∧ va_P (dC, dI) classes [(h0, .inr (1, [.ref e_lexicon, .int e_yes, .int e_no, .int e_errorTag, .int e_fixed, .ref e_cells, .ref e_spare, .int e_top, .int e_spareTop, .ref e_leftLists, .ref e_rightLists, .ref e_nextMembers])), (e_cells, .inl (cI, cl, .inl e_cells_v))] U.heap ∧ va_K (dC, dI) classes [(cI, .int)] U ∧ va_D (fun _ => True) [(h0, .inr (1, [.ref e_lexicon, .int e_yes, .int e_no, .int e_errorTag, .int e_fixed, .ref e_cells, .ref e_spare, .int e_top, .int e_spareTop, .ref e_leftLists, .ref e_rightLists, .ref e_nextMembers])), (e_cells, .inl (cI, cl, .inl e_cells_v))])) (va_Qv (fun (_ : Unit) => True) (fun (_ : Unit) t => va_P (dC, dI) classes [(h0, .inr (1, [.ref e_lexicon, .int e_yes, .int e_no, .int e_errorTag, .int e_fixed, .ref e_cells, .ref e_spare, .int e_top, .int e_spareTop, .ref e_leftLists, .ref e_rightLists, .ref e_nextMembers])), (e_cells, .inl (cI, cl, .inl (m_Heap_putMember_w1 e_cells_v cl v k to)))] t.heap ∧ va_K (dC, dI) classes [(cI, .int)] t ∧ va_D (va_A [(h0, .inr (1, [.ref e_lexicon, .int e_yes, .int e_no, .int e_errorTag, .int e_fixed, .ref e_cells, .ref e_spare, .int e_top, .int e_spareTop, .ref e_leftLists, .ref e_rightLists, .ref e_nextMembers])), (e_cells, .inl (cI, cl, .inl e_cells_v))] sz) [(h0, .inr (1, [.ref e_lexicon, .int e_yes, .int e_no, .int e_errorTag, .int e_fixed, .ref e_cells, .ref e_spare, .int e_top, .int e_spareTop, .ref e_leftLists, .ref e_rightLists, .ref e_nextMembers])), (e_cells, .inl (cI, cl, .inl (m_Heap_putMember_w1 e_cells_v cl v k to)))]) (va_A [(h0, .inr (1, [.ref e_lexicon, .int e_yes, .int e_no, .int e_errorTag, .int e_fixed, .ref e_cells, .ref e_spare, .int e_top, .int e_spareTop, .ref e_leftLists, .ref e_rightLists, .ref e_nextMembers])), (e_cells, .inl (cI, cl, .inl e_cells_v))] sz)) 0 0 (va_A [(h0, .inr (1, [.ref e_lexicon, .int e_yes, .int e_no, .int e_errorTag, .int e_fixed, .ref e_cells, .ref e_spare, .int e_top, .int e_spareTop, .ref e_leftLists, .ref e_rightLists, .ref e_nextMembers])), (e_cells, .inl (cI, cl, .inl e_cells_v))] sz) := by
  refine Met.ofW (cc := b_Heap_putMember) (maxL := 5) (ret := none) (by decide) rfl ?_
  intro p e s m args below meth c s₁ B hml hv
  obtain ⟨rfl, hsz, hP, hK, hD0⟩ := hv
  have hx := B.exec
  have hb := B.bytes
  have hr := B.returns
  have hts := atoms_spec (ws := w_Heap_putMember) B.pre
  have htt : ∀ w ∈ tw_T, w.before _ s = true := fun w h => hts w (List.mem_cons_of_mem _ h)
  have hown : s.vm.findClass R_Heap = some m.cls := findClass_of_methodNamed B.named
  have hlocks := B.notSynchronized
  subst hsz
  have hD := hD0.self (sz := s.heap.size)
  generalize hAe : va_A [(h0, .inr (1, [.ref e_lexicon, .int e_yes, .int e_no, .int e_errorTag, .int e_fixed, .ref e_cells, .ref e_spare, .int e_top, .int e_spareTop, .ref e_leftLists, .ref e_rightLists, .ref e_nextMembers])), (e_cells, .inl (cI, cl, .inl e_cells_v))] s.heap.size = A at hD ⊢
  have hA : ∀ q : Nat, s.heap.size ≤ q → A q := fun q h => by rw [← hAe]; exact Or.inr h
  have hS : va_S A s.heap s.heap [] := va_S.rf
  have hP : va_P (dC, dI) classes [(h0, .inr (1, [.ref e_lexicon, .int e_yes, .int e_no, .int e_errorTag, .int e_fixed, .ref e_cells, .ref e_spare, .int e_top, .int e_spareTop, .ref e_leftLists, .ref e_rightLists, .ref e_nextMembers])), (e_cells, .inl (cI, cl, .inl e_cells_v))] s.heap := hP
  have hl := lv_entry ([.ref h0, .int v, .int k, .int to]) (n := 5) (Nat.le_of_ble_eq_true rfl)
  rw [lg_entry_eq]
  generalize (lg_sl ([.ref h0, .int v, .int k, .int to]) ++ List.replicate (5 - (lg_sl ([.ref h0, .int v, .int k, .int to])).length) Slot.unset).toArray = ls at hl ⊢
  have hl : lv_has ls 5 [(0, .ref h0), (1, .int v), (2, .int k), (3, .int to)] := hl
  refine lv_iload_n hx hb d_Heap_putMember_0 rfl (lv_at hl 1 rfl) ?_
  refine lv_iconst (v := 2) hx hb d_Heap_putMember_1 (by decide) ?_
  refine lv_ishr hx hb d_Heap_putMember_2 ?_
  refine lv_iconst (v := 1) hx hb d_Heap_putMember_3 (by decide) ?_
  refine lv_iadd hx hb d_Heap_putMember_4 ?_
  refine lv_iload_n hx hb d_Heap_putMember_5 rfl (lv_at hl 2 rfl) ?_
  refine lv_iadd hx hb d_Heap_putMember_6 ?_
  refine lv_topi (fun x_1 ex_1 => ?_)
  refine lv_istore (lv' := [(4, .int x_1), (0, .ref h0), (1, .int v), (2, .int k), (3, .int to)]) hx hb d_Heap_putMember_7 hl (by decide) rfl (fun ls hl => ?_)
  refine lv_iload_n hx hb d_Heap_putMember_9 rfl (lv_at hl 3 rfl) ?_
  refine lv_if_lt (tgt := 40) hx hb d_Heap_putMember_10 (by decide) (fun c_2 => ?_) (fun c_2 => ?_)
  · subst ex_1
    have hP9 := hP.sub (ws' := [(h0, .inr (1, [.ref e_lexicon, .int e_yes, .int e_no, .int e_errorTag, .int e_fixed, .ref e_cells, .ref e_spare, .int e_top, .int e_spareTop, .ref e_leftLists, .ref e_rightLists, .ref e_nextMembers])), (e_cells, .inl (cI, cl, .inl e_cells_v))]) [0, 1] rfl
    have hD9 := hD.sub (ws' := [(h0, .inr (1, [.ref e_lexicon, .int e_yes, .int e_no, .int e_errorTag, .int e_fixed, .ref e_cells, .ref e_spare, .int e_top, .int e_spareTop, .ref e_leftLists, .ref e_rightLists, .ref e_nextMembers])), (e_cells, .inl (cI, cl, .inl e_cells_v))]) [0, 1] (by decide) rfl
    have eW : [(h0, .inr (1, [.ref e_lexicon, .int e_yes, .int e_no, .int e_errorTag, .int e_fixed, .ref e_cells, .ref e_spare, .int e_top, .int e_spareTop, .ref e_leftLists, .ref e_rightLists, .ref e_nextMembers])), (e_cells, .inl (cI, cl, .inl e_cells_v))] = ([(h0, .inr (1, [.ref e_lexicon, .int e_yes, .int e_no, .int e_errorTag, .int e_fixed, .ref e_cells, .ref e_spare, .int e_top, .int e_spareTop, .ref e_leftLists, .ref e_rightLists, .ref e_nextMembers])), (e_cells, .inl (cI, cl, .inl (m_Heap_putMember_w1 e_cells_v cl v k to)))] : va_W) := by unfold m_Heap_putMember_w1; simp only [if_pos c_2]
    rw [eW] at hP9 hD9
    exact W.vret hx hb hr (fun t9 ht hW => ⟨⟨(), rfl, trivial, by rw [ht]; exact hP9, va_K.moved hW.alike hK, hD9⟩, hS.F ht⟩) hS.2.2 d_Heap_putMember_40
  · refine lv_iload_n hx hb d_Heap_putMember_13 rfl (lv_at hl 3 rfl) ?_
    refine lv_aload_n hx hb d_Heap_putMember_14 rfl (lv_at hl 1 rfl) ?_
    refine lv_iload_n hx hb d_Heap_putMember_15 rfl (lv_at hl 2 rfl) ?_
    have hPc := hP.sub (ws' := [(h0, .inr (1, [.ref e_lexicon, .int e_yes, .int e_no, .int e_errorTag, .int e_fixed, .ref e_cells, .ref e_spare, .int e_top, .int e_spareTop, .ref e_leftLists, .ref e_rightLists, .ref e_nextMembers])), (e_cells, .inl (cI, cl, .inl e_cells_v))]) [0, 1] rfl
    have hDc := hD.sub (ws' := [(h0, .inr (1, [.ref e_lexicon, .int e_yes, .int e_no, .int e_errorTag, .int e_fixed, .ref e_cells, .ref e_spare, .int e_top, .int e_spareTop, .ref e_leftLists, .ref e_rightLists, .ref e_nextMembers])), (e_cells, .inl (cI, cl, .inl e_cells_v))]) [0, 1] (by decide) rfl
    have hKc := hK.sub (tys' := [(cI, .int)]) [0] rfl
    have hFc := va_free (wc := [(h0, .inr (1, [.ref e_lexicon, .int e_yes, .int e_no, .int e_errorTag, .int e_fixed, .ref e_cells, .ref e_spare, .int e_top, .int e_spareTop, .ref e_leftLists, .ref e_rightLists, .ref e_nextMembers])), (e_cells, .inl (cI, cl, .inl e_cells_v))]) hD hS hA [0, 1] rfl
    refine va_calli (va_runV (As := [.int v]) (rest := [.int k]) ⟨hx, hb, hml, hown, hts⟩ (c_Heap_count l dC dI s.heap.size h0 e_lexicon e_yes e_no e_errorTag e_fixed e_cells e_spare e_top e_spareTop e_leftLists e_rightLists e_nextMembers e_cells_v cI cl v (by assumption)) (cwV 1 hts (tw_GV tw_cons cw_Heap_count lk_Heap_125 in_Heap_count sel_Heap_count ini_Heap) rfl rfl rfl (by decide +kernel) ⟨Nat.le_of_ble_eq_true rfl, Nat.le_of_ble_eq_true rfl⟩) ⟨fun a U g mk q => by obtain ⟨q0, q1, qP, qK, qD⟩ := q; exact ⟨q0, q1, qP, va_K.moved (u := U) (U := U.calling g mk a) (Vm.Alike.refl U.vm) qK, qD⟩, va_recv hKc hPc (ci := 1) (q0 := 0) rfl rfl, fun U hU hW => ⟨rfl, by rw [hU], by rw [hU]; exact hPc, va_K.moved hW.alike hKc, hDc.weaken (fun _ _ _ _ => trivial)⟩⟩ rfl rfl hl.1 rfl (lv_room (Nat.le_of_ble_eq_true rfl)) d_Heap_putMember_16 ⟨Nat.le_of_ble_eq_true rfl, Nat.le_of_ble_eq_true rfl⟩) hS (fun q _ h => hFc q h) hFc (fun r9 u9 t9 H1 locs ht hvm e9 hB hz1 hk1 hS => ?_)
    obtain ⟨hP1, hK1, hD1⟩ := hB
    rw [ht] at hP1
    obtain ⟨hP, hD⟩ := va_join (wr := []) (w1 := [(h0, .inr (1, [.ref e_lexicon, .int e_yes, .int e_no, .int e_errorTag, .int e_fixed, .ref e_cells, .ref e_spare, .int e_top, .int e_spareTop, .ref e_leftLists, .ref e_rightLists, .ref e_nextMembers])), (e_cells, .inl (cI, cl, .inl e_cells_v))]) hP hD [0, 1] [] rfl rfl (by decide) (by decide) hk1 hFc hP1 hD1
    subst e9
    clear hP1 hD1 hK1 hvm hz1 hk1 hFc hKc hDc hPc
    subst ht
    generalize t9.heap = H at hP hS ⊢
    have hP : va_P (dC, dI) classes [(h0, .inr (1, [.ref e_lexicon, .int e_yes, .int e_no, .int e_errorTag, .int e_fixed, .ref e_cells, .ref e_spare, .int e_top, .int e_spareTop, .ref e_leftLists, .ref e_rightLists, .ref e_nextMembers])), (e_cells, .inl (cI, cl, .inl e_cells_v))] H := hP
    have hD : va_D A [(h0, .inr (1, [.ref e_lexicon, .int e_yes, .int e_no, .int e_errorTag, .int e_fixed, .ref e_cells, .ref e_spare, .int e_top, .int e_spareTop, .ref e_leftLists, .ref e_rightLists, .ref e_nextMembers])), (e_cells, .inl (cI, cl, .inl e_cells_v))] := hD
    refine lv_icmp_ge (tgt := 40) hx hb d_Heap_putMember_19 (by decide) (fun c_3 => ?_) (fun c_3 => ?_)
    · subst ex_1
      have hP9 := hP.sub (ws' := [(h0, .inr (1, [.ref e_lexicon, .int e_yes, .int e_no, .int e_errorTag, .int e_fixed, .ref e_cells, .ref e_spare, .int e_top, .int e_spareTop, .ref e_leftLists, .ref e_rightLists, .ref e_nextMembers])), (e_cells, .inl (cI, cl, .inl e_cells_v))]) [0, 1] rfl
      have hD9 := hD.sub (ws' := [(h0, .inr (1, [.ref e_lexicon, .int e_yes, .int e_no, .int e_errorTag, .int e_fixed, .ref e_cells, .ref e_spare, .int e_top, .int e_spareTop, .ref e_leftLists, .ref e_rightLists, .ref e_nextMembers])), (e_cells, .inl (cI, cl, .inl e_cells_v))]) [0, 1] (by decide) rfl
      have eW : [(h0, .inr (1, [.ref e_lexicon, .int e_yes, .int e_no, .int e_errorTag, .int e_fixed, .ref e_cells, .ref e_spare, .int e_top, .int e_spareTop, .ref e_leftLists, .ref e_rightLists, .ref e_nextMembers])), (e_cells, .inl (cI, cl, .inl e_cells_v))] = ([(h0, .inr (1, [.ref e_lexicon, .int e_yes, .int e_no, .int e_errorTag, .int e_fixed, .ref e_cells, .ref e_spare, .int e_top, .int e_spareTop, .ref e_leftLists, .ref e_rightLists, .ref e_nextMembers])), (e_cells, .inl (cI, cl, .inl (m_Heap_putMember_w1 e_cells_v cl v k to)))] : va_W) := by unfold m_Heap_putMember_w1; simp only [if_neg c_2, if_pos c_3]
      rw [eW] at hP9 hD9
      exact W.vret hx hb hr (fun t9 ht hW => ⟨⟨(), rfl, trivial, by rw [ht]; exact hP9, va_K.moved hW.alike hK, hD9⟩, hS.F ht⟩) hS.2.2 d_Heap_putMember_40
    · refine lv_iload hx hb d_Heap_putMember_22 (lv_at hl 0 rfl) ?_
      refine lv_aload_n hx hb d_Heap_putMember_24 rfl (lv_at hl 1 rfl) ?_
      refine va_get (D := (dC, dI)) (ci := 1) (v := .ref e_cells) (C := R_Heap) (T := F_Heap) (N := 12) hx hb htt iw_Heap hown hK hP 0 rfl rfl 5 (by decide) (htt _ lk_Heap_11) (fun _ h9 => h9) rfl d_Heap_putMember_25 ?_
      refine va_alen (v := nI cl) hx hb hK hP 1 0 rfl rfl rfl d_Heap_putMember_28 ?_
      refine lv_icmp_ge (tgt := 40) hx hb d_Heap_putMember_29 (by decide) (fun c_4 => ?_) (fun c_4 => ?_)
      · subst ex_1
        have hP9 := hP.sub (ws' := [(h0, .inr (1, [.ref e_lexicon, .int e_yes, .int e_no, .int e_errorTag, .int e_fixed, .ref e_cells, .ref e_spare, .int e_top, .int e_spareTop, .ref e_leftLists, .ref e_rightLists, .ref e_nextMembers])), (e_cells, .inl (cI, cl, .inl e_cells_v))]) [0, 1] rfl
        have hD9 := hD.sub (ws' := [(h0, .inr (1, [.ref e_lexicon, .int e_yes, .int e_no, .int e_errorTag, .int e_fixed, .ref e_cells, .ref e_spare, .int e_top, .int e_spareTop, .ref e_leftLists, .ref e_rightLists, .ref e_nextMembers])), (e_cells, .inl (cI, cl, .inl e_cells_v))]) [0, 1] (by decide) rfl
        have eW : [(h0, .inr (1, [.ref e_lexicon, .int e_yes, .int e_no, .int e_errorTag, .int e_fixed, .ref e_cells, .ref e_spare, .int e_top, .int e_spareTop, .ref e_leftLists, .ref e_rightLists, .ref e_nextMembers])), (e_cells, .inl (cI, cl, .inl e_cells_v))] = ([(h0, .inr (1, [.ref e_lexicon, .int e_yes, .int e_no, .int e_errorTag, .int e_fixed, .ref e_cells, .ref e_spare, .int e_top, .int e_spareTop, .ref e_leftLists, .ref e_rightLists, .ref e_nextMembers])), (e_cells, .inl (cI, cl, .inl (m_Heap_putMember_w1 e_cells_v cl v k to)))] : va_W) := by unfold m_Heap_putMember_w1; simp only [if_neg c_2, if_neg c_3, if_pos c_4]
        rw [eW] at hP9 hD9
        exact W.vret hx hb hr (fun t9 ht hW => ⟨⟨(), rfl, trivial, by rw [ht]; exact hP9, va_K.moved hW.alike hK, hD9⟩, hS.F ht⟩) hS.2.2 d_Heap_putMember_40
      · refine lv_aload_n hx hb d_Heap_putMember_32 rfl (lv_at hl 1 rfl) ?_
        refine va_get (D := (dC, dI)) (ci := 1) (v := .ref e_cells) (C := R_Heap) (T := F_Heap) (N := 12) hx hb htt iw_Heap hown hK hP 0 rfl rfl 5 (by decide) (htt _ lk_Heap_11) (fun _ h9 => h9) rfl d_Heap_putMember_33 ?_
        refine lv_iload hx hb d_Heap_putMember_36 (lv_at hl 0 rfl) ?_
        refine lv_iload_n hx hb d_Heap_putMember_38 rfl (lv_at hl 4 rfl) ?_
        have h_5 : vp_in x_1 cl := by rw [ex_1] at c_4 ⊢; exact hm_in hcl c_2 c_3 c_4
        refine va_iast hx hb hK hP hD hS 1 0 rfl rfl h_5 d_Heap_putMember_39 (fun H locs hP hD hS => ?_)
        have hP : va_P (dC, dI) classes [(h0, .inr (1, [.ref e_lexicon, .int e_yes, .int e_no, .int e_errorTag, .int e_fixed, .ref e_cells, .ref e_spare, .int e_top, .int e_spareTop, .ref e_leftLists, .ref e_rightLists, .ref e_nextMembers])), (e_cells, .inl (cI, cl, .inl (upd e_cells_v x_1.toNatClampNeg to)))] H := hP
        have hD : va_D A [(h0, .inr (1, [.ref e_lexicon, .int e_yes, .int e_no, .int e_errorTag, .int e_fixed, .ref e_cells, .ref e_spare, .int e_top, .int e_spareTop, .ref e_leftLists, .ref e_rightLists, .ref e_nextMembers])), (e_cells, .inl (cI, cl, .inl (upd e_cells_v x_1.toNatClampNeg to)))] := hD
        subst ex_1
        have hP9 := hP.sub (ws' := [(h0, .inr (1, [.ref e_lexicon, .int e_yes, .int e_no, .int e_errorTag, .int e_fixed, .ref e_cells, .ref e_spare, .int e_top, .int e_spareTop, .ref e_leftLists, .ref e_rightLists, .ref e_nextMembers])), (e_cells, .inl (cI, cl, .inl (upd e_cells_v (((v >>> (2 &&& 31)) + 1) + k).toNatClampNeg to)))]) [0, 1] rfl
        have hD9 := hD.sub (ws' := [(h0, .inr (1, [.ref e_lexicon, .int e_yes, .int e_no, .int e_errorTag, .int e_fixed, .ref e_cells, .ref e_spare, .int e_top, .int e_spareTop, .ref e_leftLists, .ref e_rightLists, .ref e_nextMembers])), (e_cells, .inl (cI, cl, .inl (upd e_cells_v (((v >>> (2 &&& 31)) + 1) + k).toNatClampNeg to)))]) [0, 1] (by decide) rfl
        have eW : [(h0, .inr (1, [.ref e_lexicon, .int e_yes, .int e_no, .int e_errorTag, .int e_fixed, .ref e_cells, .ref e_spare, .int e_top, .int e_spareTop, .ref e_leftLists, .ref e_rightLists, .ref e_nextMembers])), (e_cells, .inl (cI, cl, .inl (upd e_cells_v (((v >>> (2 &&& 31)) + 1) + k).toNatClampNeg to)))] = ([(h0, .inr (1, [.ref e_lexicon, .int e_yes, .int e_no, .int e_errorTag, .int e_fixed, .ref e_cells, .ref e_spare, .int e_top, .int e_spareTop, .ref e_leftLists, .ref e_rightLists, .ref e_nextMembers])), (e_cells, .inl (cI, cl, .inl (m_Heap_putMember_w1 e_cells_v cl v k to)))] : va_W) := by unfold m_Heap_putMember_w1; simp only [if_neg c_2, if_neg c_3, if_neg c_4]
        rw [eW] at hP9 hD9
        exact W.vret hx hb hr (fun t9 ht hW => ⟨⟨(), rfl, trivial, by rw [ht]; exact hP9, va_K.moved hW.alike hK, hD9⟩, hS.F ht⟩) hS.2.2 d_Heap_putMember_40

def m_Heap_size_L50_r (e_cells_v : Nat → Int32) (cl : Nat) (v : Int32) : Nat → Int32 → Int32 → Int32
  | 0, _, _ => 0
  | n + 1, i, len => if ((nI cl)) ≤ i then len else if ((e_cells_v i.toNatClampNeg)) = ((0 : Int32)) then len else m_Heap_size_L50_r e_cells_v cl v n ((i + 1)) ((len + 1))
def m_Heap_size_r (e_cells_v : Nat → Int32) (cl : Nat) (v : Int32) : Int32 := if ((v &&& 1)) = ((0 : Int32)) then 1 else if (v >>> (2 &&& 31)) ≤ ((0 : Int32)) then 1 else if (v >>> (2 &&& 31)) < ((nI cl)) then if ((v &&& 3)) = ((1 : Int32)) then ((e_cells_v (v >>> (2 &&& 31)).toNatClampNeg) &&& ((-1073741825))) >>> (13 &&& 31) else m_Heap_size_L50_r e_cells_v cl v (((cl : Int) - ((v >>> (2 &&& 31))).toInt).toNat + 1) ((v >>> (2 &&& 31))) 0 else 1
set_option maxHeartbeats 4000000 in
set_option maxRecDepth 100000 in
theorem lp_Heap_size_50 (l : Launch) (dC : Nat → ClassId) (dI : Nat → Nat → Nat) (h0 : Nat) (e_lexicon : Nat) (e_yes : Int32) (e_no : Int32) (e_errorTag : Int32) (e_fixed : Int32) (e_cells : Nat) (e_spare : Nat) (e_top : Int32) (e_spareTop : Int32) (e_leftLists : Nat) (e_rightLists : Nat) (e_nextMembers : Nat) (e_cells_v : Nat → Int32) (cI : ClassId) (cl : Nat) (v : Int32) (hcl : cl ≤ 340000) {p : Program} {e : Env} {s : State} {m : MethodId} {below : List Frame} {meth : Method} {c : Code} {A : Nat → Prop} (hx : p.tables.exec = Jvm.exec) (hb : c.code = b_Heap_size) (hml : c.maxLocals = 5) (hown : s.vm.findClass R_Heap = some m.cls) (hts : ∀ w ∈ w_Heap_size, w.before ([.ref h0, .int v] : List Value).toArray s = true) (hK : va_K (dC, dI) classes [(cI, .int)] s) (hA : ∀ q : Nat, s.heap.size ≤ q → A q) (hr : meth.sig.returnType = (some .int)) (hlocks : meth.locks = false) (RV0 : Int32) : ∀ (n : Nat) (i : Int32) (len : Int32), 0 < i.toInt → ((cl : Int) - i.toInt).toNat < n → m_Heap_size_L50_r e_cells_v cl v n i len = RV0 → ∀ (H : Heap) (locs : List Loc) (ls : Array Slot), va_P (dC, dI) classes [(h0, .inr (1, [.ref e_lexicon, .int e_yes, .int e_no, .int e_errorTag, .int e_fixed, .ref e_cells, .ref e_spare, .int e_top, .int e_spareTop, .ref e_leftLists, .ref e_rightLists, .ref e_nextMembers])), (e_cells, .inl (cI, cl, .inl e_cells_v))] H → va_D A [(h0, .inr (1, [.ref e_lexicon, .int e_yes, .int e_no, .int e_errorTag, .int e_fixed, .ref e_cells, .ref e_spare, .int e_top, .int e_spareTop, .ref e_leftLists, .ref e_rightLists, .ref e_nextMembers])), (e_cells, .inl (cI, cl, .inl e_cells_v))] → va_S A s.heap H locs → lv_has ls 5 [(4, .int i), (3, .int len), (0, .ref h0)] → W p l e ({ frames := 0, cells := 0, slots := 0, locals := 0 } : Room) s m ([.ref h0, .int v] : List Value).toArray below meth c H locs 0 0 (MQ below (va_Qi (fun (r : Int32) (_ : Unit) => r = RV0) (fun (_ : Unit) t => va_P (dC, dI) classes [(h0, .inr (1, [.ref e_lexicon, .int e_yes, .int e_no, .int e_errorTag, .int e_fixed, .ref e_cells, .ref e_spare, .int e_top, .int e_spareTop, .ref e_leftLists, .ref e_rightLists, .ref e_nextMembers])), (e_cells, .inl (cI, cl, .inl e_cells_v))] t.heap ∧ va_K (dC, dI) classes [(cI, .int)] t ∧ va_D A [(h0, .inr (1, [.ref e_lexicon, .int e_yes, .int e_no, .int e_errorTag, .int e_fixed, .ref e_cells, .ref e_spare, .int e_top, .int e_spareTop, .ref e_leftLists, .ref e_rightLists, .ref e_nextMembers])), (e_cells, .inl (cI, cl, .inl e_cells_v))]) A) ([.ref h0, .int v] : List Value).toArray s 0 0 A) (F0 m 50 ls []) := by
  have htt : ∀ w ∈ tw_T, w.before _ s = true := fun w h => hts w (List.mem_cons_of_mem _ h)
  intro n
  induction n with
  | zero =>
    intro i len hi hmu
    exact absurd hmu (Nat.not_lt_zero _)
  | succ n ih =>
    intro i len hi hmu hR0 H locs ls hP hD hS hl
    refine lv_iload hx hb d_Heap_size_50 (lv_at hl 0 rfl) ?_
    refine lv_aload_n hx hb d_Heap_size_52 rfl (lv_at hl 2 rfl) ?_
    refine va_get (D := (dC, dI)) (ci := 1) (v := .ref e_cells) (C := R_Heap) (T := F_Heap) (N := 12) hx hb htt iw_Heap hown hK hP 0 rfl rfl 5 (by decide) (htt _ lk_Heap_11) (fun _ h9 => h9) rfl d_Heap_size_53 ?_
    refine va_alen (v := nI cl) hx hb hK hP 1 0 rfl rfl rfl d_Heap_size_56 ?_
    refine lv_icmp_ge (tgt := 79) hx hb d_Heap_size_57 (by decide) (fun c_1 => ?_) (fun c_1 => ?_)
    · refine lv_iload_n hx hb d_Heap_size_79 rfl (lv_at hl 1 rfl) ?_
      have hP9 := hP.sub (ws' := [(h0, .inr (1, [.ref e_lexicon, .int e_yes, .int e_no, .int e_errorTag, .int e_fixed, .ref e_cells, .ref e_spare, .int e_top, .int e_spareTop, .ref e_leftLists, .ref e_rightLists, .ref e_nextMembers])), (e_cells, .inl (cI, cl, .inl e_cells_v))]) [0, 1] rfl
      have hD9 := hD.sub (ws' := [(h0, .inr (1, [.ref e_lexicon, .int e_yes, .int e_no, .int e_errorTag, .int e_fixed, .ref e_cells, .ref e_spare, .int e_top, .int e_spareTop, .ref e_leftLists, .ref e_rightLists, .ref e_nextMembers])), (e_cells, .inl (cI, cl, .inl e_cells_v))]) [0, 1] (by decide) rfl
      exact W.iret (v := len) hx hb hr (fun t9 ht hW => ⟨⟨len, (), rfl, by rw [← hR0]; simp only [m_Heap_size_L50_r, if_pos c_1], by rw [ht]; exact hP9, va_K.moved hW.alike hK, hD9⟩, hS.F ht⟩) hS.2.2 d_Heap_size_80
    · refine lv_aload_n hx hb d_Heap_size_60 rfl (lv_at hl 2 rfl) ?_
      refine va_get (D := (dC, dI)) (ci := 1) (v := .ref e_cells) (C := R_Heap) (T := F_Heap) (N := 12) hx hb htt iw_Heap hown hK hP 0 rfl rfl 5 (by decide) (htt _ lk_Heap_11) (fun _ h9 => h9) rfl d_Heap_size_61 ?_
      refine lv_iload hx hb d_Heap_size_64 (lv_at hl 0 rfl) ?_
      have h_2 : vp_in i cl := by rw [vp_in_iff]; simp only [Int32.lt_iff_toInt_lt, Int32.le_iff_toInt_le, Int32.reduceToInt, nI_toInt (show cl < 2 ^ 31 by omega)] at c_1 hi ⊢; omega
      refine va_iald hx hb hK hP 1 0 rfl rfl h_2 d_Heap_size_66 ?_
      refine lv_if_eq (tgt := 79) hx hb d_Heap_size_67 (by decide) (fun c_3 => ?_) (fun c_3 => ?_)
      · refine lv_iload_n hx hb d_Heap_size_79 rfl (lv_at hl 1 rfl) ?_
        have hP9 := hP.sub (ws' := [(h0, .inr (1, [.ref e_lexicon, .int e_yes, .int e_no, .int e_errorTag, .int e_fixed, .ref e_cells, .ref e_spare, .int e_top, .int e_spareTop, .ref e_leftLists, .ref e_rightLists, .ref e_nextMembers])), (e_cells, .inl (cI, cl, .inl e_cells_v))]) [0, 1] rfl
        have hD9 := hD.sub (ws' := [(h0, .inr (1, [.ref e_lexicon, .int e_yes, .int e_no, .int e_errorTag, .int e_fixed, .ref e_cells, .ref e_spare, .int e_top, .int e_spareTop, .ref e_leftLists, .ref e_rightLists, .ref e_nextMembers])), (e_cells, .inl (cI, cl, .inl e_cells_v))]) [0, 1] (by decide) rfl
        exact W.iret (v := len) hx hb hr (fun t9 ht hW => ⟨⟨len, (), rfl, by rw [← hR0]; simp only [m_Heap_size_L50_r, if_neg c_1, if_pos c_3], by rw [ht]; exact hP9, va_K.moved hW.alike hK, hD9⟩, hS.F ht⟩) hS.2.2 d_Heap_size_80
      · obtain ⟨x_4, ex_4⟩ : ∃ y : Int32, y = len + 1 := ⟨_, rfl⟩
        refine lv_iinc (v := x_4) (lv' := [(3, .int x_4), (4, .int i), (0, .ref h0)]) hx hb d_Heap_size_70 hl (k := 1) rfl (by rw [ex_4]; rfl) (by decide) rfl (fun ls hl => ?_)
        obtain ⟨x_5, ex_5⟩ : ∃ y : Int32, y = i + 1 := ⟨_, rfl⟩
        refine lv_iinc (v := x_5) (lv' := [(4, .int x_5), (3, .int x_4), (0, .ref h0)]) hx hb d_Heap_size_73 hl (k := 1) rfl (by rw [ex_5]; rfl) (by decide) rfl (fun ls hl => ?_)
        refine lv_goto (tgt := 50) hx hb d_Heap_size_76 (by decide) ?_
        exact ih x_5 x_4 (by have h8 := c_1; simp only [Int32.lt_iff_toInt_lt, Int32.le_iff_toInt_le, Int32.reduceToInt, nI_toInt (show cl < 2 ^ 31 by omega)] at h8; rw [ex_5, up_step (by omega)]; omega) (by have h8 := c_1; simp only [Int32.lt_iff_toInt_lt, Int32.le_iff_toInt_le, Int32.reduceToInt, nI_toInt (show cl < 2 ^ 31 by omega)] at h8; rw [ex_5, up_step (by omega)]; omega) (by subst ex_4; subst ex_5; rw [← hR0]; simp only [m_Heap_size_L50_r, if_neg c_1, if_neg c_3]) _ _ _ (hP.sub [0, 1] rfl) (hD.sub [0, 1] (by decide) rfl) hS (lv_sub hl [0, 1, 2] rfl)

set_option maxHeartbeats 4000000 in
set_option maxRecDepth 100000 in
/-- the SIZE of a VALUE -/
theorem c_Heap_size (l : Launch) (dC : Nat → ClassId) (dI : Nat → Nat → Nat) (sz : Nat) (h0 : Nat) (e_lexicon : Nat) (e_yes : Int32) (e_no : Int32) (e_errorTag : Int32) (e_fixed : Int32) (e_cells : Nat) (e_spare : Nat) (e_top : Int32) (e_spareTop : Int32) (e_leftLists : Nat) (e_rightLists : Nat) (e_nextMembers : Nat) (e_cells_v : Nat → Int32) (cI : ClassId) (cl : Nat) (v : Int32) (hcl : cl ≤ 340000) : Met l y_Heap_size w_Heap_size ({ frames := 0, cells := 0, slots := 0, locals := 0 }) (va_Pc [.ref h0, .int v] (fun U => U.heap.size = sz ∧ va_P (dC, dI) classes [(h0, .inr (1, [.ref e_lexicon, .int e_yes, .int e_no, .int e_errorTag, .int e_fixed, .ref e_cells, .ref e_spare, .int e_top, .int e_spareTop, .ref e_leftLists, .ref e_rightLists, .ref e_nextMembers])), (e_cells, .inl (cI, cl, .inl e_cells_v))] U.heap ∧ va_K (dC, dI) classes [(cI, .int)] U ∧ va_D (fun _ => True) [(h0, .inr (1, [.ref e_lexicon, .int e_yes, .int e_no, .int e_errorTag, .int e_fixed, .ref e_cells, .ref e_spare, .int e_top, .int e_spareTop, .ref e_leftLists, .ref e_rightLists, .ref e_nextMembers])), (e_cells, .inl (cI, cl, .inl e_cells_v))])) (va_Qi (fun (r : Int32) (_ : Unit) => r = m_Heap_size_r e_cells_v cl v) (fun (_ : Unit) t => va_P (dC, dI) classes [(h0, .inr (1, [.ref e_lexicon, .int e_yes, .int e_no, .int e_errorTag, .int e_fixed, .ref e_cells, .ref e_spare, .int e_top, .int e_spareTop, .ref e_leftLists, .ref e_rightLists, .ref e_nextMembers])), (e_cells, .inl (cI, cl, .inl e_cells_v))] t.heap ∧ va_K (dC, dI) classes [(cI, .int)] t ∧ va_D (va_A [(h0, .inr (1, [.ref e_lexicon, .int e_yes, .int e_no, .int e_errorTag, .int e_fixed, .ref e_cells, .ref e_spare, .int e_top, .int e_spareTop, .ref e_leftLists, .ref e_rightLists, .ref e_nextMembers])), (e_cells, .inl (cI, cl, .inl e_cells_v))] sz) [(h0, .inr (1, [.ref e_lexicon, .int e_yes, .int e_no, .int e_errorTag, .int e_fixed, .ref e_cells, .ref e_spare, .int e_top, .int e_spareTop, .ref e_leftLists, .ref e_rightLists, .ref e_nextMembers])), (e_cells, .inl (cI, cl, .inl e_cells_v))]) (va_A [(h0, .inr (1, [.ref e_lexicon, .int e_yes, .int e_no, .int e_errorTag, .int e_fixed, .ref e_cells, .ref e_spare, .int e_top, .int e_spareTop, .ref e_leftLists, .ref e_rightLists, .ref e_nextMembers])), (e_cells, .inl (cI, cl, .inl e_cells_v))] sz)) 0 0 (va_A [(h0, .inr (1, [.ref e_lexicon, .int e_yes, .int e_no, .int e_errorTag, .int e_fixed, .ref e_cells, .ref e_spare, .int e_top, .int e_spareTop, .ref e_leftLists, .ref e_rightLists, .ref e_nextMembers])), (e_cells, .inl (cI, cl, .inl e_cells_v))] sz) := by
  refine Met.ofW (cc := b_Heap_size) (maxL := 5) (ret := (some .int)) (by decide) rfl ?_
  intro p e s m args below meth c s₁ B hml hv
  obtain ⟨rfl, hsz, hP, hK, hD0⟩ := hv
  have hx := B.exec
  have hb := B.bytes
  have hr := B.returns
  have hts := atoms_spec (ws := w_Heap_size) B.pre
  have htt : ∀ w ∈ tw_T, w.before _ s = true := fun w h => hts w (List.mem_cons_of_mem _ h)
  have hown : s.vm.findClass R_Heap = some m.cls := findClass_of_methodNamed B.named
  have hlocks := B.notSynchronized
  subst hsz
  have hD := hD0.self (sz := s.heap.size)
  generalize hAe : va_A [(h0, .inr (1, [.ref e_lexicon, .int e_yes, .int e_no, .int e_errorTag, .int e_fixed, .ref e_cells, .ref e_spare, .int e_top, .int e_spareTop, .ref e_leftLists, .ref e_rightLists, .ref e_nextMembers])), (e_cells, .inl (cI, cl, .inl e_cells_v))] s.heap.size = A at hD ⊢
  have hA : ∀ q : Nat, s.heap.size ≤ q → A q := fun q h => by rw [← hAe]; exact Or.inr h
  have hS : va_S A s.heap s.heap [] := va_S.rf
  have hP : va_P (dC, dI) classes [(h0, .inr (1, [.ref e_lexicon, .int e_yes, .int e_no, .int e_errorTag, .int e_fixed, .ref e_cells, .ref e_spare, .int e_top, .int e_spareTop, .ref e_leftLists, .ref e_rightLists, .ref e_nextMembers])), (e_cells, .inl (cI, cl, .inl e_cells_v))] s.heap := hP
  have hl := lv_entry ([.ref h0, .int v]) (n := 5) (Nat.le_of_ble_eq_true rfl)
  rw [lg_entry_eq]
  generalize (lg_sl ([.ref h0, .int v]) ++ List.replicate (5 - (lg_sl ([.ref h0, .int v])).length) Slot.unset).toArray = ls at hl ⊢
  have hl : lv_has ls 5 [(0, .ref h0), (1, .int v)] := hl
  refine lv_iload_n hx hb d_Heap_size_0 rfl (lv_at hl 1 rfl) ?_
  refine lv_iconst (v := 2) hx hb d_Heap_size_1 (by decide) ?_
  refine lv_ishr hx hb d_Heap_size_2 ?_
  refine lv_topi (fun x_1 ex_1 => ?_)
  refine lv_istore_n (lv' := [(2, .int x_1), (0, .ref h0), (1, .int v)]) hx hb d_Heap_size_3 rfl hl (by decide) rfl (fun ls hl => ?_)
  refine lv_iload_n hx hb d_Heap_size_4 rfl (lv_at hl 2 rfl) ?_
  refine lv_iconst (v := 1) hx hb d_Heap_size_5 (by decide) ?_
  refine lv_iand hx hb d_Heap_size_6 ?_
  refine lv_if_eq (tgt := 23) hx hb d_Heap_size_7 (by decide) (fun c_2 => ?_) (fun c_2 => ?_)
  · refine lv_iconst (v := 1) hx hb d_Heap_size_23 (by decide) ?_
    subst ex_1
    have hP9 := hP.sub (ws' := [(h0, .inr (1, [.ref e_lexicon, .int e_yes, .int e_no, .int e_errorTag, .int e_fixed, .ref e_cells, .ref e_spare, .int e_top, .int e_spareTop, .ref e_leftLists, .ref e_rightLists, .ref e_nextMembers])), (e_cells, .inl (cI, cl, .inl e_cells_v))]) [0, 1] rfl
    have hD9 := hD.sub (ws' := [(h0, .inr (1, [.ref e_lexicon, .int e_yes, .int e_no, .int e_errorTag, .int e_fixed, .ref e_cells, .ref e_spare, .int e_top, .int e_spareTop, .ref e_leftLists, .ref e_rightLists, .ref e_nextMembers])), (e_cells, .inl (cI, cl, .inl e_cells_v))]) [0, 1] (by decide) rfl
    exact W.iret (v := 1) hx hb hr (fun t9 ht hW => ⟨⟨1, (), rfl, by unfold m_Heap_size_r; simp only [if_pos c_2], by rw [ht]; exact hP9, va_K.moved hW.alike hK, hD9⟩, hS.F ht⟩) hS.2.2 d_Heap_size_24
  · refine lv_iload_n hx hb d_Heap_size_10 rfl (lv_at hl 0 rfl) ?_
    refine lv_if_le (tgt := 23) hx hb d_Heap_size_11 (by decide) (fun c_3 => ?_) (fun c_3 => ?_)
    · refine lv_iconst (v := 1) hx hb d_Heap_size_23 (by decide) ?_
      subst ex_1
      have hP9 := hP.sub (ws' := [(h0, .inr (1, [.ref e_lexicon, .int e_yes, .int e_no, .int e_errorTag, .int e_fixed, .ref e_cells, .ref e_spare, .int e_top, .int e_spareTop, .ref e_leftLists, .ref e_rightLists, .ref e_nextMembers])), (e_cells, .inl (cI, cl, .inl e_cells_v))]) [0, 1] rfl
      have hD9 := hD.sub (ws' := [(h0, .inr (1, [.ref e_lexicon, .int e_yes, .int e_no, .int e_errorTag, .int e_fixed, .ref e_cells, .ref e_spare, .int e_top, .int e_spareTop, .ref e_leftLists, .ref e_rightLists, .ref e_nextMembers])), (e_cells, .inl (cI, cl, .inl e_cells_v))]) [0, 1] (by decide) rfl
      exact W.iret (v := 1) hx hb hr (fun t9 ht hW => ⟨⟨1, (), rfl, by unfold m_Heap_size_r; simp only [if_neg c_2, if_pos c_3], by rw [ht]; exact hP9, va_K.moved hW.alike hK, hD9⟩, hS.F ht⟩) hS.2.2 d_Heap_size_24
    · refine lv_iload_n hx hb d_Heap_size_14 rfl (lv_at hl 0 rfl) ?_
      refine lv_aload_n hx hb d_Heap_size_15 rfl (lv_at hl 1 rfl) ?_
      refine va_get (D := (dC, dI)) (ci := 1) (v := .ref e_cells) (C := R_Heap) (T := F_Heap) (N := 12) hx hb htt iw_Heap hown hK hP 0 rfl rfl 5 (by decide) (htt _ lk_Heap_11) (fun _ h9 => h9) rfl d_Heap_size_16 ?_
      refine va_alen (v := nI cl) hx hb hK hP 1 0 rfl rfl rfl d_Heap_size_19 ?_
      refine lv_icmp_lt (tgt := 25) hx hb d_Heap_size_20 (by decide) (fun c_4 => ?_) (fun c_4 => ?_)
      · refine lv_iload_n hx hb d_Heap_size_25 rfl (lv_at hl 2 rfl) ?_
        refine lv_iconst (v := 3) hx hb d_Heap_size_26 (by decide) ?_
        refine lv_iand hx hb d_Heap_size_27 ?_
        refine lv_iconst (v := 1) hx hb d_Heap_size_28 (by decide) ?_
        refine lv_icmp_ne (tgt := 45) hx hb d_Heap_size_29 (by decide) (fun c_5 => ?_) (fun c_5 => ?_)
        · refine lv_iconst (v := 0) hx hb d_Heap_size_45 (by decide) ?_
          refine lv_istore_n (lv' := [(3, .int 0), (2, .int x_1), (0, .ref h0), (1, .int v)]) hx hb d_Heap_size_46 rfl hl (by decide) rfl (fun ls hl => ?_)
          refine lv_iload_n hx hb d_Heap_size_47 rfl (lv_at hl 1 rfl) ?_
          refine lv_istore (lv' := [(4, .int x_1), (3, .int 0), (2, .int x_1), (0, .ref h0), (1, .int v)]) hx hb d_Heap_size_48 hl (by decide) rfl (fun ls hl => ?_)
          exact lp_Heap_size_50 l dC dI h0 e_lexicon e_yes e_no e_errorTag e_fixed e_cells e_spare e_top e_spareTop e_leftLists e_rightLists e_nextMembers e_cells_v cI cl v hcl hx hb hml hown hts hK hA hr hlocks (m_Heap_size_r e_cells_v cl v) (((cl : Int) - x_1.toInt).toNat + 1) x_1 0 (by have h8 := c_3; simp only [Int32.lt_iff_toInt_lt, Int32.le_iff_toInt_le, Int32.reduceToInt] at h8; omega) (by exact Nat.lt_succ_self _) (by subst ex_1; unfold m_Heap_size_r; simp only [if_neg c_2, if_neg c_3, if_pos c_4, if_neg c_5]) _ _ _ (hP.sub [0, 1] rfl) (hD.sub [0, 1] (by decide) rfl) hS (lv_sub hl [0, 1, 3] rfl)
        · refine lv_aload_n hx hb d_Heap_size_32 rfl (lv_at hl 1 rfl) ?_
          refine va_get (D := (dC, dI)) (ci := 1) (v := .ref e_cells) (C := R_Heap) (T := F_Heap) (N := 12) hx hb htt iw_Heap hown hK hP 0 rfl rfl 5 (by decide) (htt _ lk_Heap_11) (fun _ h9 => h9) rfl d_Heap_size_33 ?_
          refine lv_iload_n hx hb d_Heap_size_36 rfl (lv_at hl 0 rfl) ?_
          have h_6 : vp_in x_1 cl := by rw [vp_in_iff]; simp only [Int32.lt_iff_toInt_lt, Int32.le_iff_toInt_le, Int32.reduceToInt, nI_toInt (show cl < 2 ^ 31 by omega)] at c_2 c_3 c_4 c_5 ⊢; omega
          refine va_iald hx hb hK hP 1 0 rfl rfl h_6 d_Heap_size_37 ?_
          refine lv_ldc (v := (-1073741825)) hx hb hown (htt _ lk_Heap_128) d_Heap_size_38 ?_
          refine lv_iand hx hb d_Heap_size_40 ?_
          refine lv_bipush (v := 13) hx hb d_Heap_size_41 (by decide) ?_
          refine lv_ishr hx hb d_Heap_size_43 ?_
          subst ex_1
          have hP9 := hP.sub (ws' := [(h0, .inr (1, [.ref e_lexicon, .int e_yes, .int e_no, .int e_errorTag, .int e_fixed, .ref e_cells, .ref e_spare, .int e_top, .int e_spareTop, .ref e_leftLists, .ref e_rightLists, .ref e_nextMembers])), (e_cells, .inl (cI, cl, .inl e_cells_v))]) [0, 1] rfl
          have hD9 := hD.sub (ws' := [(h0, .inr (1, [.ref e_lexicon, .int e_yes, .int e_no, .int e_errorTag, .int e_fixed, .ref e_cells, .ref e_spare, .int e_top, .int e_spareTop, .ref e_leftLists, .ref e_rightLists, .ref e_nextMembers])), (e_cells, .inl (cI, cl, .inl e_cells_v))]) [0, 1] (by decide) rfl
          exact W.iret (v := ((e_cells_v (v >>> (2 &&& 31)).toNatClampNeg) &&& ((-1073741825))) >>> (13 &&& 31)) hx hb hr (fun t9 ht hW => ⟨⟨((e_cells_v (v >>> (2 &&& 31)).toNatClampNeg) &&& ((-1073741825))) >>> (13 &&& 31), (), rfl, by unfold m_Heap_size_r; simp only [if_neg c_2, if_neg c_3, if_pos c_4, if_pos c_5], by rw [ht]; exact hP9, va_K.moved hW.alike hK, hD9⟩, hS.F ht⟩) hS.2.2 d_Heap_size_44
      · refine lv_iconst (v := 1) hx hb d_Heap_size_23 (by decide) ?_
        subst ex_1
        have hP9 := hP.sub (ws' := [(h0, .inr (1, [.ref e_lexicon, .int e_yes, .int e_no, .int e_errorTag, .int e_fixed, .ref e_cells, .ref e_spare, .int e_top, .int e_spareTop, .ref e_leftLists, .ref e_rightLists, .ref e_nextMembers])), (e_cells, .inl (cI, cl, .inl e_cells_v))]) [0, 1] rfl
        have hD9 := hD.sub (ws' := [(h0, .inr (1, [.ref e_lexicon, .int e_yes, .int e_no, .int e_errorTag, .int e_fixed, .ref e_cells, .ref e_spare, .int e_top, .int e_spareTop, .ref e_leftLists, .ref e_rightLists, .ref e_nextMembers])), (e_cells, .inl (cI, cl, .inl e_cells_v))]) [0, 1] (by decide) rfl
        exact W.iret (v := 1) hx hb hr (fun t9 ht hW => ⟨⟨1, (), rfl, by unfold m_Heap_size_r; simp only [if_neg c_2, if_neg c_3, if_neg c_4], by rw [ht]; exact hP9, va_K.moved hW.alike hK, hD9⟩, hS.F ht⟩) hS.2.2 d_Heap_size_24

def m_Heap_behind_r (e_cells_v : Nat → Int32) (cl : Nat) (v : Int32) : Int32 := if ((v >>> (2 &&& 31)) + 1) ≤ ((1 : Int32)) then (-2147483648) else if ((nI cl)) ≤ ((v >>> (2 &&& 31)) + 1) then (-2147483648) else if ((e_cells_v ((v >>> (2 &&& 31)) + 1).toNatClampNeg)) = ((0 : Int32)) then (-2147483648) else (((v >>> (2 &&& 31)) + 1) <<< (2 &&& 31)) ||| 3
set_option maxHeartbeats 4000000 in
set_option maxRecDepth 100000 in
theorem c_Heap_behind (l : Launch) (dC : Nat → ClassId) (dI : Nat → Nat → Nat) (sz : Nat) (h0 : Nat) (e_lexicon : Nat) (e_yes : Int32) (e_no : Int32) (e_errorTag : Int32) (e_fixed : Int32) (e_cells : Nat) (e_spare : Nat) (e_top : Int32) (e_spareTop : Int32) (e_leftLists : Nat) (e_rightLists : Nat) (e_nextMembers : Nat) (e_cells_v : Nat → Int32) (cI : ClassId) (cl : Nat) (v : Int32) (hcl : cl ≤ 340000) : Met l y_Heap_behind w_Heap_behind ({ frames := 0, cells := 0, slots := 0, locals := 0 }) (va_Pc [.ref h0, .int v] (fun U => U.heap.size = sz ∧ va_P (dC, dI) classes [(h0, .inr (1, [.ref e_lexicon, .int e_yes, .int e_no, .int e_errorTag, .int e_fixed, .ref e_cells, .ref e_spare, .int e_top, .int e_spareTop, .ref e_leftLists, .ref e_rightLists, .ref e_nextMembers])), (e_cells, .inl (cI, cl, .inl e_cells_v))] U.heap ∧ va_K (dC, dI) classes [(cI, .int)] U ∧ va_D (fun _ => True) [(h0, .inr (1, [.ref e_lexicon, .int e_yes, .int e_no, .int e_errorTag, .int e_fixed, .ref e_cells, .ref e_spare, .int e_top, .int e_spareTop, .ref e_leftLists, .ref e_rightLists, .ref e_nextMembers])), (e_cells, .inl (cI, cl, .inl e_cells_v))])) (va_Qi (fun (r : Int32) (_ : Unit) => r = m_Heap_behind_r e_cells_v cl v) (fun (_ : Unit) t => va_P (dC, dI) classes [(h0, .inr (1, [.ref e_lexicon, .int e_yes, .int e_no, .int e_errorTag, .int e_fixed, .ref e_cells, .ref e_spare, .int e_top, .int e_spareTop, .ref e_leftLists, .ref e_rightLists, .ref e_nextMembers])), (e_cells, .inl (cI, cl, .inl e_cells_v))] t.heap ∧ va_K (dC, dI) classes [(cI, .int)] t ∧ va_D (va_A [(h0, .inr (1, [.ref e_lexicon, .int e_yes, .int e_no, .int e_errorTag, .int e_fixed, .ref e_cells, .ref e_spare, .int e_top, .int e_spareTop, .ref e_leftLists, .ref e_rightLists, .ref e_nextMembers])), (e_cells, .inl (cI, cl, .inl e_cells_v))] sz) [(h0, .inr (1, [.ref e_lexicon, .int e_yes, .int e_no, .int e_errorTag, .int e_fixed, .ref e_cells, .ref e_spare, .int e_top, .int e_spareTop, .ref e_leftLists, .ref e_rightLists, .ref e_nextMembers])), (e_cells, .inl (cI, cl, .inl e_cells_v))]) (va_A [(h0, .inr (1, [.ref e_lexicon, .int e_yes, .int e_no, .int e_errorTag, .int e_fixed, .ref e_cells, .ref e_spare, .int e_top, .int e_spareTop, .ref e_leftLists, .ref e_rightLists, .ref e_nextMembers])), (e_cells, .inl (cI, cl, .inl e_cells_v))] sz)) 0 0 (va_A [(h0, .inr (1, [.ref e_lexicon, .int e_yes, .int e_no, .int e_errorTag, .int e_fixed, .ref e_cells, .ref e_spare, .int e_top, .int e_spareTop, .ref e_leftLists, .ref e_rightLists, .ref e_nextMembers])), (e_cells, .inl (cI, cl, .inl e_cells_v))] sz) := by
  refine Met.ofW (cc := b_Heap_behind) (maxL := 3) (ret := (some .int)) (by decide) rfl ?_
  intro p e s m args below meth c s₁ B hml hv
  obtain ⟨rfl, hsz, hP, hK, hD0⟩ := hv
  have hx := B.exec
  have hb := B.bytes
  have hr := B.returns
  have hts := atoms_spec (ws := w_Heap_behind) B.pre
  have htt : ∀ w ∈ tw_T, w.before _ s = true := fun w h => hts w (List.mem_cons_of_mem _ h)
  have hown : s.vm.findClass R_Heap = some m.cls := findClass_of_methodNamed B.named
  have hlocks := B.notSynchronized
  subst hsz
  have hD := hD0.self (sz := s.heap.size)
  generalize hAe : va_A [(h0, .inr (1, [.ref e_lexicon, .int e_yes, .int e_no, .int e_errorTag, .int e_fixed, .ref e_cells, .ref e_spare, .int e_top, .int e_spareTop, .ref e_leftLists, .ref e_rightLists, .ref e_nextMembers])), (e_cells, .inl (cI, cl, .inl e_cells_v))] s.heap.size = A at hD ⊢
  have hA : ∀ q : Nat, s.heap.size ≤ q → A q := fun q h => by rw [← hAe]; exact Or.inr h
  have hS : va_S A s.heap s.heap [] := va_S.rf
  have hP : va_P (dC, dI) classes [(h0, .inr (1, [.ref e_lexicon, .int e_yes, .int e_no, .int e_errorTag, .int e_fixed, .ref e_cells, .ref e_spare, .int e_top, .int e_spareTop, .ref e_leftLists, .ref e_rightLists, .ref e_nextMembers])), (e_cells, .inl (cI, cl, .inl e_cells_v))] s.heap := hP
  have hl := lv_entry ([.ref h0, .int v]) (n := 3) (Nat.le_of_ble_eq_true rfl)
  rw [lg_entry_eq]
  generalize (lg_sl ([.ref h0, .int v]) ++ List.replicate (3 - (lg_sl ([.ref h0, .int v])).length) Slot.unset).toArray = ls at hl ⊢
  have hl : lv_has ls 3 [(0, .ref h0), (1, .int v)] := hl
  refine lv_iload_n hx hb d_Heap_behind_0 rfl (lv_at hl 1 rfl) ?_
  refine lv_iconst (v := 2) hx hb d_Heap_behind_1 (by decide) ?_
  refine lv_ishr hx hb d_Heap_behind_2 ?_
  refine lv_iconst (v := 1) hx hb d_Heap_behind_3 (by decide) ?_
  refine lv_iadd hx hb d_Heap_behind_4 ?_
  refine lv_topi (fun x_1 ex_1 => ?_)
  refine lv_istore_n (lv' := [(2, .int x_1), (0, .ref h0), (1, .int v)]) hx hb d_Heap_behind_5 rfl hl (by decide) rfl (fun ls hl => ?_)
  refine lv_iload_n hx hb d_Heap_behind_6 rfl (lv_at hl 0 rfl) ?_
  refine lv_iconst (v := 1) hx hb d_Heap_behind_7 (by decide) ?_
  refine lv_icmp_le (tgt := 37) hx hb d_Heap_behind_8 (by decide) (fun c_2 => ?_) (fun c_2 => ?_)
  · refine lv_ldc (v := (-2147483648)) hx hb hown (htt _ lk_Heap_71) d_Heap_behind_37 ?_
    subst ex_1
    have hP9 := hP.sub (ws' := [(h0, .inr (1, [.ref e_lexicon, .int e_yes, .int e_no, .int e_errorTag, .int e_fixed, .ref e_cells, .ref e_spare, .int e_top, .int e_spareTop, .ref e_leftLists, .ref e_rightLists, .ref e_nextMembers])), (e_cells, .inl (cI, cl, .inl e_cells_v))]) [0, 1] rfl
    have hD9 := hD.sub (ws' := [(h0, .inr (1, [.ref e_lexicon, .int e_yes, .int e_no, .int e_errorTag, .int e_fixed, .ref e_cells, .ref e_spare, .int e_top, .int e_spareTop, .ref e_leftLists, .ref e_rightLists, .ref e_nextMembers])), (e_cells, .inl (cI, cl, .inl e_cells_v))]) [0, 1] (by decide) rfl
    exact W.iret (v := (-2147483648)) hx hb hr (fun t9 ht hW => ⟨⟨(-2147483648), (), rfl, by unfold m_Heap_behind_r; simp only [if_pos c_2], by rw [ht]; exact hP9, va_K.moved hW.alike hK, hD9⟩, hS.F ht⟩) hS.2.2 d_Heap_behind_39
  · refine lv_iload_n hx hb d_Heap_behind_11 rfl (lv_at hl 0 rfl) ?_
    refine lv_aload_n hx hb d_Heap_behind_12 rfl (lv_at hl 1 rfl) ?_
    refine va_get (D := (dC, dI)) (ci := 1) (v := .ref e_cells) (C := R_Heap) (T := F_Heap) (N := 12) hx hb htt iw_Heap hown hK hP 0 rfl rfl 5 (by decide) (htt _ lk_Heap_11) (fun _ h9 => h9) rfl d_Heap_behind_13 ?_
    refine va_alen (v := nI cl) hx hb hK hP 1 0 rfl rfl rfl d_Heap_behind_16 ?_
    refine lv_icmp_ge (tgt := 37) hx hb d_Heap_behind_17 (by decide) (fun c_3 => ?_) (fun c_3 => ?_)
    · refine lv_ldc (v := (-2147483648)) hx hb hown (htt _ lk_Heap_71) d_Heap_behind_37 ?_
      subst ex_1
      have hP9 := hP.sub (ws' := [(h0, .inr (1, [.ref e_lexicon, .int e_yes, .int e_no, .int e_errorTag, .int e_fixed, .ref e_cells, .ref e_spare, .int e_top, .int e_spareTop, .ref e_leftLists, .ref e_rightLists, .ref e_nextMembers])), (e_cells, .inl (cI, cl, .inl e_cells_v))]) [0, 1] rfl
      have hD9 := hD.sub (ws' := [(h0, .inr (1, [.ref e_lexicon, .int e_yes, .int e_no, .int e_errorTag, .int e_fixed, .ref e_cells, .ref e_spare, .int e_top, .int e_spareTop, .ref e_leftLists, .ref e_rightLists, .ref e_nextMembers])), (e_cells, .inl (cI, cl, .inl e_cells_v))]) [0, 1] (by decide) rfl
      exact W.iret (v := (-2147483648)) hx hb hr (fun t9 ht hW => ⟨⟨(-2147483648), (), rfl, by unfold m_Heap_behind_r; simp only [if_neg c_2, if_pos c_3], by rw [ht]; exact hP9, va_K.moved hW.alike hK, hD9⟩, hS.F ht⟩) hS.2.2 d_Heap_behind_39
    · refine lv_aload_n hx hb d_Heap_behind_20 rfl (lv_at hl 1 rfl) ?_
      refine va_get (D := (dC, dI)) (ci := 1) (v := .ref e_cells) (C := R_Heap) (T := F_Heap) (N := 12) hx hb htt iw_Heap hown hK hP 0 rfl rfl 5 (by decide) (htt _ lk_Heap_11) (fun _ h9 => h9) rfl d_Heap_behind_21 ?_
      refine lv_iload_n hx hb d_Heap_behind_24 rfl (lv_at hl 0 rfl) ?_
      have h_4 : vp_in x_1 cl := by rw [vp_in_iff]; simp only [Int32.lt_iff_toInt_lt, Int32.le_iff_toInt_le, Int32.reduceToInt, nI_toInt (show cl < 2 ^ 31 by omega)] at c_2 c_3 ⊢; omega
      refine va_iald hx hb hK hP 1 0 rfl rfl h_4 d_Heap_behind_25 ?_
      refine lv_if_eq (tgt := 37) hx hb d_Heap_behind_26 (by decide) (fun c_5 => ?_) (fun c_5 => ?_)
      · refine lv_ldc (v := (-2147483648)) hx hb hown (htt _ lk_Heap_71) d_Heap_behind_37 ?_
        subst ex_1
        have hP9 := hP.sub (ws' := [(h0, .inr (1, [.ref e_lexicon, .int e_yes, .int e_no, .int e_errorTag, .int e_fixed, .ref e_cells, .ref e_spare, .int e_top, .int e_spareTop, .ref e_leftLists, .ref e_rightLists, .ref e_nextMembers])), (e_cells, .inl (cI, cl, .inl e_cells_v))]) [0, 1] rfl
        have hD9 := hD.sub (ws' := [(h0, .inr (1, [.ref e_lexicon, .int e_yes, .int e_no, .int e_errorTag, .int e_fixed, .ref e_cells, .ref e_spare, .int e_top, .int e_spareTop, .ref e_leftLists, .ref e_rightLists, .ref e_nextMembers])), (e_cells, .inl (cI, cl, .inl e_cells_v))]) [0, 1] (by decide) rfl
        exact W.iret (v := (-2147483648)) hx hb hr (fun t9 ht hW => ⟨⟨(-2147483648), (), rfl, by unfold m_Heap_behind_r; simp only [if_neg c_2, if_neg c_3, if_pos c_5], by rw [ht]; exact hP9, va_K.moved hW.alike hK, hD9⟩, hS.F ht⟩) hS.2.2 d_Heap_behind_39
      · refine lv_iload_n hx hb d_Heap_behind_29 rfl (lv_at hl 0 rfl) ?_
        refine lv_iconst (v := 2) hx hb d_Heap_behind_30 (by decide) ?_
        refine lv_ishl hx hb d_Heap_behind_31 ?_
        refine lv_iconst (v := 3) hx hb d_Heap_behind_32 (by decide) ?_
        refine lv_ior hx hb d_Heap_behind_33 ?_
        refine lv_goto (tgt := 39) hx hb d_Heap_behind_34 (by decide) ?_
        subst ex_1
        have hP9 := hP.sub (ws' := [(h0, .inr (1, [.ref e_lexicon, .int e_yes, .int e_no, .int e_errorTag, .int e_fixed, .ref e_cells, .ref e_spare, .int e_top, .int e_spareTop, .ref e_leftLists, .ref e_rightLists, .ref e_nextMembers])), (e_cells, .inl (cI, cl, .inl e_cells_v))]) [0, 1] rfl
        have hD9 := hD.sub (ws' := [(h0, .inr (1, [.ref e_lexicon, .int e_yes, .int e_no, .int e_errorTag, .int e_fixed, .ref e_cells, .ref e_spare, .int e_top, .int e_spareTop, .ref e_leftLists, .ref e_rightLists, .ref e_nextMembers])), (e_cells, .inl (cI, cl, .inl e_cells_v))]) [0, 1] (by decide) rfl
        exact W.iret (v := (((v >>> (2 &&& 31)) + 1) <<< (2 &&& 31)) ||| 3) hx hb hr (fun t9 ht hW => ⟨⟨(((v >>> (2 &&& 31)) + 1) <<< (2 &&& 31)) ||| 3, (), rfl, by unfold m_Heap_behind_r; simp only [if_neg c_2, if_neg c_3, if_neg c_5], by rw [ht]; exact hP9, va_K.moved hW.alike hK, hD9⟩, hS.F ht⟩) hS.2.2 d_Heap_behind_39

theorem sw_add {x : Int32} {i : Nat} (h0 : 0 < x.toInt) (hi : x.toInt + i < 1073741824) : (x + nI i).toInt = x.toInt + i := by
  have e : (nI i).toInt = i := nI_toInt (by omega)
  rw [i32_add (by rw [e]; omega) (by rw [e]; omega), e]
theorem sw_lt {cl : Nat} {x : Int32} {i : Nat} (hcl : cl ≤ 340000) (h0 : 0 < x.toInt) (hi : x.toInt + i < 1073741824) (h : ¬ nI cl ≤ x + nI i) : x.toInt + i < cl := by
  rw [Int32.le_iff_toInt_le, sw_add h0 hi, nI_toInt (show cl < 2 ^ 31 by omega)] at h; omega
theorem sw_in {cl : Nat} {x : Int32} {i : Nat} (hcl : cl ≤ 340000) (h0 : 0 < x.toInt) (hi : x.toInt + i < 1073741824) (h : ¬ nI cl ≤ x + nI i) : vp_in (x + nI i) cl := by
  have := sw_lt hcl h0 hi h
  rw [vp_in_iff, sw_add h0 hi]; omega

def m_Heap_sameWord_L30_r (e_cells_v : Nat → Int32) (cl : Nat) (a : Int32) (b : Int32) : Nat → Nat → Int32 → Int32 → Int32
  | 0, _, _, _ => 0
  | n + 1, i, lf, rt => if ((nI cl)) ≤ ((lf + (nI i))) then 0 else if ((nI cl)) ≤ ((rt + (nI i))) then 0 else if (e_cells_v (lf + (nI i)).toNatClampNeg) = ((e_cells_v (rt + (nI i)).toNatClampNeg)) then if (e_cells_v (lf + (nI i)).toNatClampNeg) = ((0 : Int32)) then 1 else m_Heap_sameWord_L30_r e_cells_v cl a b n (i + 1) lf rt else 0
def m_Heap_sameWord_r (e_cells_v : Nat → Int32) (cl : Nat) (a : Int32) (b : Int32) : Int32 := if a = b then 1 else if (a >>> (2 &&& 31)) ≤ ((0 : Int32)) then 0 else if ((0 : Int32)) < (b >>> (2 &&& 31)) then m_Heap_sameWord_L30_r e_cells_v cl a b (((cl : Int) - ((a >>> (2 &&& 31))).toInt - 0).toNat + 1) 0 ((a >>> (2 &&& 31))) ((b >>> (2 &&& 31))) else 0
set_option maxHeartbeats 4000000 in
set_option maxRecDepth 100000 in
theorem lp_Heap_sameWord_30 (l : Launch) (dC : Nat → ClassId) (dI : Nat → Nat → Nat) (h0 : Nat) (e_lexicon : Nat) (e_yes : Int32) (e_no : Int32) (e_errorTag : Int32) (e_fixed : Int32) (e_cells : Nat) (e_spare : Nat) (e_top : Int32) (e_spareTop : Int32) (e_leftLists : Nat) (e_rightLists : Nat) (e_nextMembers : Nat) (e_cells_v : Nat → Int32) (cI : ClassId) (cl : Nat) (a : Int32) (b : Int32) (hcl : cl ≤ 340000) {p : Program} {e : Env} {s : State} {m : MethodId} {below : List Frame} {meth : Method} {c : Code} {A : Nat → Prop} (hx : p.tables.exec = Jvm.exec) (hb : c.code = b_Heap_sameWord) (hml : c.maxLocals = 7) (hown : s.vm.findClass R_Heap = some m.cls) (hts : ∀ w ∈ w_Heap_sameWord, w.before ([.ref h0, .int a, .int b] : List Value).toArray s = true) (hK : va_K (dC, dI) classes [(cI, .int)] s) (hA : ∀ q : Nat, s.heap.size ≤ q → A q) (hr : meth.sig.returnType = (some .boolean)) (hlocks : meth.locks = false) (RV0 : Int32) : ∀ (n : Nat) (i : Nat) (lf : Int32) (rt : Int32), 0 < lf.toInt → 0 < rt.toInt → lf.toInt + i < 1073741824 → rt.toInt + i < 1073741824 → ((cl : Int) - lf.toInt - i).toNat < n → m_Heap_sameWord_L30_r e_cells_v cl a b n i lf rt = RV0 → ∀ (H : Heap) (locs : List Loc) (ls : Array Slot), va_P (dC, dI) classes [(h0, .inr (1, [.ref e_lexicon, .int e_yes, .int e_no, .int e_errorTag, .int e_fixed, .ref e_cells, .ref e_spare, .int e_top, .int e_spareTop, .ref e_leftLists, .ref e_rightLists, .ref e_nextMembers])), (e_cells, .inl (cI, cl, .inl e_cells_v))] H → va_D A [(h0, .inr (1, [.ref e_lexicon, .int e_yes, .int e_no, .int e_errorTag, .int e_fixed, .ref e_cells, .ref e_spare, .int e_top, .int e_spareTop, .ref e_leftLists, .ref e_rightLists, .ref e_nextMembers])), (e_cells, .inl (cI, cl, .inl e_cells_v))] → va_S A s.heap H locs → lv_has ls 7 [(5, .int (nI i)), (3, .int lf), (4, .int rt), (0, .ref h0)] → W p l e ({ frames := 0, cells := 0, slots := 0, locals := 0 } : Room) s m ([.ref h0, .int a, .int b] : List Value).toArray below meth c H locs 0 0 (MQ below (va_Qi (fun (r : Int32) (_ : Unit) => r = RV0) (fun (_ : Unit) t => va_P (dC, dI) classes [(h0, .inr (1, [.ref e_lexicon, .int e_yes, .int e_no, .int e_errorTag, .int e_fixed, .ref e_cells, .ref e_spare, .int e_top, .int e_spareTop, .ref e_leftLists, .ref e_rightLists, .ref e_nextMembers])), (e_cells, .inl (cI, cl, .inl e_cells_v))] t.heap ∧ va_K (dC, dI) classes [(cI, .int)] t ∧ va_D A [(h0, .inr (1, [.ref e_lexicon, .int e_yes, .int e_no, .int e_errorTag, .int e_fixed, .ref e_cells, .ref e_spare, .int e_top, .int e_spareTop, .ref e_leftLists, .ref e_rightLists, .ref e_nextMembers])), (e_cells, .inl (cI, cl, .inl e_cells_v))]) A) ([.ref h0, .int a, .int b] : List Value).toArray s 0 0 A) (F0 m 30 ls []) := by
  have htt : ∀ w ∈ tw_T, w.before _ s = true := fun w h => hts w (List.mem_cons_of_mem _ h)
  intro n
  induction n with
  | zero =>
    intro i lf rt hl0 hr0 hli hri hmu
    exact absurd hmu (Nat.not_lt_zero _)
  | succ n ih =>
    intro i lf rt hl0 hr0 hli hri hmu hR0 H locs ls hP hD hS hl
    refine lv_iload_n hx hb d_Heap_sameWord_30 rfl (lv_at hl 1 rfl) ?_
    refine lv_iload hx hb d_Heap_sameWord_31 (lv_at hl 0 rfl) ?_
    refine lv_iadd hx hb d_Heap_sameWord_33 ?_
    refine lv_aload_n hx hb d_Heap_sameWord_34 rfl (lv_at hl 3 rfl) ?_
    refine va_get (D := (dC, dI)) (ci := 1) (v := .ref e_cells) (C := R_Heap) (T := F_Heap) (N := 12) hx hb htt iw_Heap hown hK hP 0 rfl rfl 5 (by decide) (htt _ lk_Heap_11) (fun _ h9 => h9) rfl d_Heap_sameWord_35 ?_
    refine va_alen (v := nI cl) hx hb hK hP 1 0 rfl rfl rfl d_Heap_sameWord_38 ?_
    refine lv_icmp_ge (tgt := 96) hx hb d_Heap_sameWord_39 (by decide) (fun c_1 => ?_) (fun c_1 => ?_)
    · refine lv_iconst (v := 0) hx hb d_Heap_sameWord_96 (by decide) ?_
      have hP9 := hP.sub (ws' := [(h0, .inr (1, [.ref e_lexicon, .int e_yes, .int e_no, .int e_errorTag, .int e_fixed, .ref e_cells, .ref e_spare, .int e_top, .int e_spareTop, .ref e_leftLists, .ref e_rightLists, .ref e_nextMembers])), (e_cells, .inl (cI, cl, .inl e_cells_v))]) [0, 1] rfl
      have hD9 := hD.sub (ws' := [(h0, .inr (1, [.ref e_lexicon, .int e_yes, .int e_no, .int e_errorTag, .int e_fixed, .ref e_cells, .ref e_spare, .int e_top, .int e_spareTop, .ref e_leftLists, .ref e_rightLists, .ref e_nextMembers])), (e_cells, .inl (cI, cl, .inl e_cells_v))]) [0, 1] (by decide) rfl
      exact W.zret (v := 0) hx hb hr (by decide) (fun t9 ht hW => ⟨⟨0, (), rfl, by rw [← hR0]; simp only [m_Heap_sameWord_L30_r, if_pos c_1], by rw [ht]; exact hP9, va_K.moved hW.alike hK, hD9⟩, hS.F ht⟩) hS.2.2 d_Heap_sameWord_97
    · refine lv_iload hx hb d_Heap_sameWord_42 (lv_at hl 2 rfl) ?_
      refine lv_iload hx hb d_Heap_sameWord_44 (lv_at hl 0 rfl) ?_
      refine lv_iadd hx hb d_Heap_sameWord_46 ?_
      refine lv_aload_n hx hb d_Heap_sameWord_47 rfl (lv_at hl 3 rfl) ?_
      refine va_get (D := (dC, dI)) (ci := 1) (v := .ref e_cells) (C := R_Heap) (T := F_Heap) (N := 12) hx hb htt iw_Heap hown hK hP 0 rfl rfl 5 (by decide) (htt _ lk_Heap_11) (fun _ h9 => h9) rfl d_Heap_sameWord_48 ?_
      refine va_alen (v := nI cl) hx hb hK hP 1 0 rfl rfl rfl d_Heap_sameWord_51 ?_
      refine lv_icmp_ge (tgt := 96) hx hb d_Heap_sameWord_52 (by decide) (fun c_2 => ?_) (fun c_2 => ?_)
      · refine lv_iconst (v := 0) hx hb d_Heap_sameWord_96 (by decide) ?_
        have hP9 := hP.sub (ws' := [(h0, .inr (1, [.ref e_lexicon, .int e_yes, .int e_no, .int e_errorTag, .int e_fixed, .ref e_cells, .ref e_spare, .int e_top, .int e_spareTop, .ref e_leftLists, .ref e_rightLists, .ref e_nextMembers])), (e_cells, .inl (cI, cl, .inl e_cells_v))]) [0, 1] rfl
        have hD9 := hD.sub (ws' := [(h0, .inr (1, [.ref e_lexicon, .int e_yes, .int e_no, .int e_errorTag, .int e_fixed, .ref e_cells, .ref e_spare, .int e_top, .int e_spareTop, .ref e_leftLists, .ref e_rightLists, .ref e_nextMembers])), (e_cells, .inl (cI, cl, .inl e_cells_v))]) [0, 1] (by decide) rfl
        exact W.zret (v := 0) hx hb hr (by decide) (fun t9 ht hW => ⟨⟨0, (), rfl, by rw [← hR0]; simp only [m_Heap_sameWord_L30_r, if_neg c_1, if_pos c_2], by rw [ht]; exact hP9, va_K.moved hW.alike hK, hD9⟩, hS.F ht⟩) hS.2.2 d_Heap_sameWord_97
      · refine lv_aload_n hx hb d_Heap_sameWord_55 rfl (lv_at hl 3 rfl) ?_
        refine va_get (D := (dC, dI)) (ci := 1) (v := .ref e_cells) (C := R_Heap) (T := F_Heap) (N := 12) hx hb htt iw_Heap hown hK hP 0 rfl rfl 5 (by decide) (htt _ lk_Heap_11) (fun _ h9 => h9) rfl d_Heap_sameWord_56 ?_
        refine lv_iload_n hx hb d_Heap_sameWord_59 rfl (lv_at hl 1 rfl) ?_
        refine lv_iload hx hb d_Heap_sameWord_60 (lv_at hl 0 rfl) ?_
        refine lv_iadd hx hb d_Heap_sameWord_62 ?_
        have h_3 : vp_in (lf + (nI i)) cl := sw_in hcl hl0 hli c_1
        refine va_iald hx hb hK hP 1 0 rfl rfl h_3 d_Heap_sameWord_63 ?_
        refine lv_topi (fun x_4 ex_4 => ?_)
        refine lv_istore (lv' := [(6, .int x_4), (5, .int (nI i)), (3, .int lf), (4, .int rt), (0, .ref h0)]) hx hb d_Heap_sameWord_64 hl (by decide) rfl (fun ls hl => ?_)
        refine lv_iload hx hb d_Heap_sameWord_66 (lv_at hl 0 rfl) ?_
        refine lv_aload_n hx hb d_Heap_sameWord_68 rfl (lv_at hl 4 rfl) ?_
        refine va_get (D := (dC, dI)) (ci := 1) (v := .ref e_cells) (C := R_Heap) (T := F_Heap) (N := 12) hx hb htt iw_Heap hown hK hP 0 rfl rfl 5 (by decide) (htt _ lk_Heap_11) (fun _ h9 => h9) rfl d_Heap_sameWord_69 ?_
        refine lv_iload hx hb d_Heap_sameWord_72 (lv_at hl 3 rfl) ?_
        refine lv_iload hx hb d_Heap_sameWord_74 (lv_at hl 1 rfl) ?_
        refine lv_iadd hx hb d_Heap_sameWord_76 ?_
        have h_5 : vp_in (rt + (nI i)) cl := sw_in hcl hr0 hri c_2
        refine va_iald hx hb hK hP 1 0 rfl rfl h_5 d_Heap_sameWord_77 ?_
        refine lv_icmp_eq (tgt := 83) hx hb d_Heap_sameWord_78 (by decide) (fun c_6 => ?_) (fun c_6 => ?_)
        · refine lv_iload hx hb d_Heap_sameWord_83 (lv_at hl 0 rfl) ?_
          refine lv_if_ne (tgt := 90) hx hb d_Heap_sameWord_85 (by decide) (fun c_7 => ?_) (fun c_7 => ?_)
          · refine lv_iinc (v := nI (i + 1)) (lv' := [(5, .int (nI (i + 1))), (6, .int x_4), (3, .int lf), (4, .int rt), (0, .ref h0)]) hx hb d_Heap_sameWord_90 hl (k := 1) rfl (nI_1 _) (by decide) rfl (fun ls hl => ?_)
            refine lv_goto (tgt := 30) hx hb d_Heap_sameWord_93 (by decide) ?_
            exact ih (i + 1) lf rt (hl0) (hr0) (by have h8 := sw_lt hcl hl0 hli c_1; omega) (by have h8 := sw_lt hcl hr0 hri c_2; omega) (by have h8 := sw_lt hcl hl0 hli c_1; omega) (by subst ex_4; rw [← hR0]; simp only [m_Heap_sameWord_L30_r, if_neg c_1, if_neg c_2, if_pos c_6, if_neg c_7]) _ _ _ (hP.sub [0, 1] rfl) (hD.sub [0, 1] (by decide) rfl) hS (lv_sub hl [0, 2, 3, 4] rfl)
          · refine lv_iconst (v := 1) hx hb d_Heap_sameWord_88 (by decide) ?_
            subst ex_4
            have hP9 := hP.sub (ws' := [(h0, .inr (1, [.ref e_lexicon, .int e_yes, .int e_no, .int e_errorTag, .int e_fixed, .ref e_cells, .ref e_spare, .int e_top, .int e_spareTop, .ref e_leftLists, .ref e_rightLists, .ref e_nextMembers])), (e_cells, .inl (cI, cl, .inl e_cells_v))]) [0, 1] rfl
            have hD9 := hD.sub (ws' := [(h0, .inr (1, [.ref e_lexicon, .int e_yes, .int e_no, .int e_errorTag, .int e_fixed, .ref e_cells, .ref e_spare, .int e_top, .int e_spareTop, .ref e_leftLists, .ref e_rightLists, .ref e_nextMembers])), (e_cells, .inl (cI, cl, .inl e_cells_v))]) [0, 1] (by decide) rfl
            exact W.zret (v := 1) hx hb hr (by decide) (fun t9 ht hW => ⟨⟨1, (), rfl, by rw [← hR0]; simp only [m_Heap_sameWord_L30_r, if_neg c_1, if_neg c_2, if_pos c_6, if_pos c_7], by rw [ht]; exact hP9, va_K.moved hW.alike hK, hD9⟩, hS.F ht⟩) hS.2.2 d_Heap_sameWord_89
        · refine lv_iconst (v := 0) hx hb d_Heap_sameWord_81 (by decide) ?_
          subst ex_4
          have hP9 := hP.sub (ws' := [(h0, .inr (1, [.ref e_lexicon, .int e_yes, .int e_no, .int e_errorTag, .int e_fixed, .ref e_cells, .ref e_spare, .int e_top, .int e_spareTop, .ref e_leftLists, .ref e_rightLists, .ref e_nextMembers])), (e_cells, .inl (cI, cl, .inl e_cells_v))]) [0, 1] rfl
          have hD9 := hD.sub (ws' := [(h0, .inr (1, [.ref e_lexicon, .int e_yes, .int e_no, .int e_errorTag, .int e_fixed, .ref e_cells, .ref e_spare, .int e_top, .int e_spareTop, .ref e_leftLists, .ref e_rightLists, .ref e_nextMembers])), (e_cells, .inl (cI, cl, .inl e_cells_v))]) [0, 1] (by decide) rfl
          exact W.zret (v := 0) hx hb hr (by decide) (fun t9 ht hW => ⟨⟨0, (), rfl, by rw [← hR0]; simp only [m_Heap_sameWord_L30_r, if_neg c_1, if_neg c_2, if_neg c_6], by rw [ht]; exact hP9, va_K.moved hW.alike hK, hD9⟩, hS.F ht⟩) hS.2.2 d_Heap_sameWord_82

set_option maxHeartbeats 4000000 in
set_option maxRecDepth 100000 in
/-- whether two WORDS are of the same LETTERS -/
theorem c_Heap_sameWord (l : Launch) (dC : Nat → ClassId) (dI : Nat → Nat → Nat) (sz : Nat) (h0 : Nat) (e_lexicon : Nat) (e_yes : Int32) (e_no : Int32) (e_errorTag : Int32) (e_fixed : Int32) (e_cells : Nat) (e_spare : Nat) (e_top : Int32) (e_spareTop : Int32) (e_leftLists : Nat) (e_rightLists : Nat) (e_nextMembers : Nat) (e_cells_v : Nat → Int32) (cI : ClassId) (cl : Nat) (a : Int32) (b : Int32) (hcl : cl ≤ 340000) : Met l y_Heap_sameWord w_Heap_sameWord ({ frames := 0, cells := 0, slots := 0, locals := 0 }) (va_Pc [.ref h0, .int a, .int b] (fun U => U.heap.size = sz ∧ va_P (dC, dI) classes [(h0, .inr (1, [.ref e_lexicon, .int e_yes, .int e_no, .int e_errorTag, .int e_fixed, .ref e_cells, .ref e_spare, .int e_top, .int e_spareTop, .ref e_leftLists, .ref e_rightLists, .ref e_nextMembers])), (e_cells, .inl (cI, cl, .inl e_cells_v))] U.heap ∧ va_K (dC, dI) classes [(cI, .int)] U ∧ va_D (fun _ => True) [(h0, .inr (1, [.ref e_lexicon, .int e_yes, .int e_no, .int e_errorTag, .int e_fixed, .ref e_cells, .ref e_spare, .int e_top, .int e_spareTop, .ref e_leftLists, .ref e_rightLists, .ref e_nextMembers])), (e_cells, .inl (cI, cl, .inl e_cells_v))])) (va_Qi (fun (r : Int32) (_ : Unit) => r = m_Heap_sameWord_r e_cells_v cl a b) (fun (_ : Unit) t => va_P (dC, dI) classes [(h0, .inr (1, [.ref e_lexicon, .int e_yes, .int e_no, .int e_errorTag, .int e_fixed, .ref e_cells, .ref e_spare, .int e_top, .int e_spareTop, .ref e_leftLists, .ref e_rightLists, .ref e_nextMembers])), (e_cells, .inl (cI, cl, .inl e_cells_v))] t.heap ∧ va_K (dC, dI) classes [(cI, .int)] t ∧ va_D (va_A [(h0, .inr (1, [.ref e_lexicon, .int e_yes, .int e_no, .int e_errorTag, .int e_fixed, .ref e_cells, .ref e_spare, .int e_top, .int e_spareTop, .ref e_leftLists, .ref e_rightLists, .ref e_nextMembers])), (e_cells, .inl (cI, cl, .inl e_cells_v))] sz) [(h0, .inr (1, [.ref e_lexicon, .int e_yes, .int e_no, .int e_errorTag, .int e_fixed, .ref e_cells, .ref e_spare, .int e_top, .int e_spareTop, .ref e_leftLists, .ref e_rightLists, .ref e_nextMembers])), (e_cells, .inl (cI, cl, .inl e_cells_v))]) (va_A [(h0, .inr (1, [.ref e_lexicon, .int e_yes, .int e_no, .int e_errorTag, .int e_fixed, .ref e_cells, .ref e_spare, .int e_top, .int e_spareTop, .ref e_leftLists, .ref e_rightLists, .ref e_nextMembers])), (e_cells, .inl (cI, cl, .inl e_cells_v))] sz)) 0 0 (va_A [(h0, .inr (1, [.ref e_lexicon, .int e_yes, .int e_no, .int e_errorTag, .int e_fixed, .ref e_cells, .ref e_spare, .int e_top, .int e_spareTop, .ref e_leftLists, .ref e_rightLists, .ref e_nextMembers])), (e_cells, .inl (cI, cl, .inl e_cells_v))] sz) := by
  refine Met.ofW (cc := b_Heap_sameWord) (maxL := 7) (ret := (some .boolean)) (by decide) rfl ?_
  intro p e s m args below meth c s₁ B hml hv
  obtain ⟨rfl, hsz, hP, hK, hD0⟩ := hv
  have hx := B.exec
  have hb := B.bytes
  have hr := B.returns
  have hts := atoms_spec (ws := w_Heap_sameWord) B.pre
  have htt : ∀ w ∈ tw_T, w.before _ s = true := fun w h => hts w (List.mem_cons_of_mem _ h)
  have hown : s.vm.findClass R_Heap = some m.cls := findClass_of_methodNamed B.named
  have hlocks := B.notSynchronized
  subst hsz
  have hD := hD0.self (sz := s.heap.size)
  generalize hAe : va_A [(h0, .inr (1, [.ref e_lexicon, .int e_yes, .int e_no, .int e_errorTag, .int e_fixed, .ref e_cells, .ref e_spare, .int e_top, .int e_spareTop, .ref e_leftLists, .ref e_rightLists, .ref e_nextMembers])), (e_cells, .inl (cI, cl, .inl e_cells_v))] s.heap.size = A at hD ⊢
  have hA : ∀ q : Nat, s.heap.size ≤ q → A q := fun q h => by rw [← hAe]; exact Or.inr h
  have hS : va_S A s.heap s.heap [] := va_S.rf
  have hP : va_P (dC, dI) classes [(h0, .inr (1, [.ref e_lexicon, .int e_yes, .int e_no, .int e_errorTag, .int e_fixed, .ref e_cells, .ref e_spare, .int e_top, .int e_spareTop, .ref e_leftLists, .ref e_rightLists, .ref e_nextMembers])), (e_cells, .inl (cI, cl, .inl e_cells_v))] s.heap := hP
  have hl := lv_entry ([.ref h0, .int a, .int b]) (n := 7) (Nat.le_of_ble_eq_true rfl)
  rw [lg_entry_eq]
  generalize (lg_sl ([.ref h0, .int a, .int b]) ++ List.replicate (7 - (lg_sl ([.ref h0, .int a, .int b])).length) Slot.unset).toArray = ls at hl ⊢
  have hl : lv_has ls 7 [(0, .ref h0), (1, .int a), (2, .int b)] := hl
  refine lv_iload_n hx hb d_Heap_sameWord_0 rfl (lv_at hl 1 rfl) ?_
  refine lv_iload_n hx hb d_Heap_sameWord_1 rfl (lv_at hl 2 rfl) ?_
  refine lv_icmp_ne (tgt := 7) hx hb d_Heap_sameWord_2 (by decide) (fun c_1 => ?_) (fun c_1 => ?_)
  · refine lv_iload_n hx hb d_Heap_sameWord_7 rfl (lv_at hl 1 rfl) ?_
    refine lv_iconst (v := 2) hx hb d_Heap_sameWord_8 (by decide) ?_
    refine lv_ishr hx hb d_Heap_sameWord_9 ?_
    refine lv_topi (fun x_2 ex_2 => ?_)
    refine lv_istore_n (lv' := [(3, .int x_2), (0, .ref h0), (1, .int a), (2, .int b)]) hx hb d_Heap_sameWord_10 rfl hl (by decide) rfl (fun ls hl => ?_)
    refine lv_iload_n hx hb d_Heap_sameWord_11 rfl (lv_at hl 3 rfl) ?_
    refine lv_iconst (v := 2) hx hb d_Heap_sameWord_12 (by decide) ?_
    refine lv_ishr hx hb d_Heap_sameWord_13 ?_
    refine lv_topi (fun x_3 ex_3 => ?_)
    refine lv_istore (lv' := [(4, .int x_3), (3, .int x_2), (0, .ref h0), (1, .int a), (2, .int b)]) hx hb d_Heap_sameWord_14 hl (by decide) rfl (fun ls hl => ?_)
    refine lv_iload_n hx hb d_Heap_sameWord_16 rfl (lv_at hl 1 rfl) ?_
    refine lv_if_le (tgt := 25) hx hb d_Heap_sameWord_17 (by decide) (fun c_4 => ?_) (fun c_4 => ?_)
    · refine lv_iconst (v := 0) hx hb d_Heap_sameWord_25 (by decide) ?_
      subst ex_2 ex_3
      have hP9 := hP.sub (ws' := [(h0, .inr (1, [.ref e_lexicon, .int e_yes, .int e_no, .int e_errorTag, .int e_fixed, .ref e_cells, .ref e_spare, .int e_top, .int e_spareTop, .ref e_leftLists, .ref e_rightLists, .ref e_nextMembers])), (e_cells, .inl (cI, cl, .inl e_cells_v))]) [0, 1] rfl
      have hD9 := hD.sub (ws' := [(h0, .inr (1, [.ref e_lexicon, .int e_yes, .int e_no, .int e_errorTag, .int e_fixed, .ref e_cells, .ref e_spare, .int e_top, .int e_spareTop, .ref e_leftLists, .ref e_rightLists, .ref e_nextMembers])), (e_cells, .inl (cI, cl, .inl e_cells_v))]) [0, 1] (by decide) rfl
      exact W.zret (v := 0) hx hb hr (by decide) (fun t9 ht hW => ⟨⟨0, (), rfl, by unfold m_Heap_sameWord_r; simp only [if_neg c_1, if_pos c_4], by rw [ht]; exact hP9, va_K.moved hW.alike hK, hD9⟩, hS.F ht⟩) hS.2.2 d_Heap_sameWord_26
    · refine lv_iload hx hb d_Heap_sameWord_20 (lv_at hl 0 rfl) ?_
      refine lv_if_gt (tgt := 27) hx hb d_Heap_sameWord_22 (by decide) (fun c_5 => ?_) (fun c_5 => ?_)
      · refine lv_iconst (v := 0) hx hb d_Heap_sameWord_27 (by decide) ?_
        refine lv_istore (lv' := [(5, .int 0), (4, .int x_3), (3, .int x_2), (0, .ref h0), (1, .int a), (2, .int b)]) hx hb d_Heap_sameWord_28 hl (by decide) rfl (fun ls hl => ?_)
        exact lp_Heap_sameWord_30 l dC dI h0 e_lexicon e_yes e_no e_errorTag e_fixed e_cells e_spare e_top e_spareTop e_leftLists e_rightLists e_nextMembers e_cells_v cI cl a b hcl hx hb hml hown hts hK hA hr hlocks (m_Heap_sameWord_r e_cells_v cl a b) (((cl : Int) - x_2.toInt - 0).toNat + 1) 0 x_2 x_3 (by have h8 := c_4; simp only [Int32.lt_iff_toInt_lt, Int32.le_iff_toInt_le, Int32.reduceToInt] at h8; omega) (by have h8 := c_5; simp only [Int32.lt_iff_toInt_lt, Int32.le_iff_toInt_le, Int32.reduceToInt] at h8; omega) (by rw [ex_2]; have := sh2_le a; omega) (by rw [ex_3]; have := sh2_le b; omega) (by exact Nat.lt_succ_self _) (by subst ex_2; subst ex_3; unfold m_Heap_sameWord_r; simp only [if_neg c_1, if_neg c_4, if_pos c_5]) _ _ _ (hP.sub [0, 1] rfl) (hD.sub [0, 1] (by decide) rfl) hS (lv_sub hl [0, 2, 1, 3] rfl)
      · refine lv_iconst (v := 0) hx hb d_Heap_sameWord_25 (by decide) ?_
        subst ex_2 ex_3
        have hP9 := hP.sub (ws' := [(h0, .inr (1, [.ref e_lexicon, .int e_yes, .int e_no, .int e_errorTag, .int e_fixed, .ref e_cells, .ref e_spare, .int e_top, .int e_spareTop, .ref e_leftLists, .ref e_rightLists, .ref e_nextMembers])), (e_cells, .inl (cI, cl, .inl e_cells_v))]) [0, 1] rfl
        have hD9 := hD.sub (ws' := [(h0, .inr (1, [.ref e_lexicon, .int e_yes, .int e_no, .int e_errorTag, .int e_fixed, .ref e_cells, .ref e_spare, .int e_top, .int e_spareTop, .ref e_leftLists, .ref e_rightLists, .ref e_nextMembers])), (e_cells, .inl (cI, cl, .inl e_cells_v))]) [0, 1] (by decide) rfl
        exact W.zret (v := 0) hx hb hr (by decide) (fun t9 ht hW => ⟨⟨0, (), rfl, by unfold m_Heap_sameWord_r; simp only [if_neg c_1, if_neg c_4, if_neg c_5], by rw [ht]; exact hP9, va_K.moved hW.alike hK, hD9⟩, hS.F ht⟩) hS.2.2 d_Heap_sameWord_26
  · refine lv_iconst (v := 1) hx hb d_Heap_sameWord_5 (by decide) ?_
    have hP9 := hP.sub (ws' := [(h0, .inr (1, [.ref e_lexicon, .int e_yes, .int e_no, .int e_errorTag, .int e_fixed, .ref e_cells, .ref e_spare, .int e_top, .int e_spareTop, .ref e_leftLists, .ref e_rightLists, .ref e_nextMembers])), (e_cells, .inl (cI, cl, .inl e_cells_v))]) [0, 1] rfl
    have hD9 := hD.sub (ws' := [(h0, .inr (1, [.ref e_lexicon, .int e_yes, .int e_no, .int e_errorTag, .int e_fixed, .ref e_cells, .ref e_spare, .int e_top, .int e_spareTop, .ref e_leftLists, .ref e_rightLists, .ref e_nextMembers])), (e_cells, .inl (cI, cl, .inl e_cells_v))]) [0, 1] (by decide) rfl
    exact W.zret (v := 1) hx hb hr (by decide) (fun t9 ht hW => ⟨⟨1, (), rfl, by unfold m_Heap_sameWord_r; simp only [if_pos c_1], by rw [ht]; exact hP9, va_K.moved hW.alike hK, hD9⟩, hS.F ht⟩) hS.2.2 d_Heap_sameWord_6
