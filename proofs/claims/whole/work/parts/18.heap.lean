theorem d_Heap_truth_0 : decode b_Heap_truth 0 = .ok (.iload_n 1, 1) := by decide +kernel
theorem d_Heap_truth_1 : decode b_Heap_truth 1 = .ok (.ifCond .eq 10, 3) := by decide +kernel
theorem d_Heap_truth_4 : decode b_Heap_truth 4 = .ok (.aload_n 0, 1) := by decide +kernel
theorem d_Heap_truth_5 : decode b_Heap_truth 5 = .ok (.getfield 41, 3) := by decide +kernel
theorem d_Heap_truth_8 : decode b_Heap_truth 8 = .ok (.goto 7, 3) := by decide +kernel
theorem d_Heap_truth_11 : decode b_Heap_truth 11 = .ok (.aload_n 0, 1) := by decide +kernel
theorem d_Heap_truth_12 : decode b_Heap_truth 12 = .ok (.getfield 46, 3) := by decide +kernel
theorem d_Heap_truth_15 : decode b_Heap_truth 15 = .ok (.ireturn, 1) := by decide +kernel
theorem lk_Heap_46 : Cond.fieldLink "TurtleWorld$Heap" 46 "TurtleWorld$Heap" "no" "I" ∈ tw_T := tw_i1 202 (by decide +kernel) (by decide +kernel)
theorem lk_Heap_41 : Cond.fieldLink "TurtleWorld$Heap" 41 "TurtleWorld$Heap" "yes" "I" ∈ tw_T := tw_i1 199 (by decide +kernel) (by decide +kernel)
theorem d_Heap_count_0 : decode b_Heap_count 0 = .ok (.iload_n 1, 1) := by decide +kernel
theorem d_Heap_count_1 : decode b_Heap_count 1 = .ok (.iconst 2, 1) := by decide +kernel
theorem d_Heap_count_2 : decode b_Heap_count 2 = .ok (.ishr, 1) := by decide +kernel
theorem d_Heap_count_3 : decode b_Heap_count 3 = .ok (.istore_n 2, 1) := by decide +kernel
theorem d_Heap_count_4 : decode b_Heap_count 4 = .ok (.iload_n 1, 1) := by decide +kernel
theorem d_Heap_count_5 : decode b_Heap_count 5 = .ok (.iconst 3, 1) := by decide +kernel
theorem d_Heap_count_6 : decode b_Heap_count 6 = .ok (.iand, 1) := by decide +kernel
theorem d_Heap_count_7 : decode b_Heap_count 7 = .ok (.iconst 1, 1) := by decide +kernel
theorem d_Heap_count_8 : decode b_Heap_count 8 = .ok (.if_icmp .ne 29, 3) := by decide +kernel
theorem d_Heap_count_11 : decode b_Heap_count 11 = .ok (.iload_n 2, 1) := by decide +kernel
theorem d_Heap_count_12 : decode b_Heap_count 12 = .ok (.ifCond .le 25, 3) := by decide +kernel
theorem d_Heap_count_15 : decode b_Heap_count 15 = .ok (.iload_n 2, 1) := by decide +kernel
theorem d_Heap_count_16 : decode b_Heap_count 16 = .ok (.aload_n 0, 1) := by decide +kernel
theorem d_Heap_count_17 : decode b_Heap_count 17 = .ok (.getfield 11, 3) := by decide +kernel
theorem d_Heap_count_20 : decode b_Heap_count 20 = .ok (.arraylength, 1) := by decide +kernel
theorem d_Heap_count_21 : decode b_Heap_count 21 = .ok (.if_icmp .ge 16, 3) := by decide +kernel
theorem d_Heap_count_24 : decode b_Heap_count 24 = .ok (.aload_n 0, 1) := by decide +kernel
theorem d_Heap_count_25 : decode b_Heap_count 25 = .ok (.getfield 11, 3) := by decide +kernel
theorem d_Heap_count_28 : decode b_Heap_count 28 = .ok (.iload_n 2, 1) := by decide +kernel
theorem d_Heap_count_29 : decode b_Heap_count 29 = .ok (.iaload, 1) := by decide +kernel
theorem d_Heap_count_30 : decode b_Heap_count 30 = .ok (.sipush 8191, 3) := by decide +kernel
theorem d_Heap_count_33 : decode b_Heap_count 33 = .ok (.iand, 1) := by decide +kernel
theorem d_Heap_count_34 : decode b_Heap_count 34 = .ok (.goto 4, 3) := by decide +kernel
theorem d_Heap_count_37 : decode b_Heap_count 37 = .ok (.iconst 0, 1) := by decide +kernel
theorem d_Heap_count_38 : decode b_Heap_count 38 = .ok (.ireturn, 1) := by decide +kernel
theorem lk_Heap_11 : Cond.fieldLink "TurtleWorld$Heap" 11 "TurtleWorld$Heap" "cells" "[I" ∈ tw_T := tw_i1 208 (by decide +kernel) (by decide +kernel)
theorem d_Heap_member_0 : decode b_Heap_member 0 = .ok (.iload_n 1, 1) := by decide +kernel
theorem d_Heap_member_1 : decode b_Heap_member 1 = .ok (.iconst 2, 1) := by decide +kernel
theorem d_Heap_member_2 : decode b_Heap_member 2 = .ok (.ishr, 1) := by decide +kernel
theorem d_Heap_member_3 : decode b_Heap_member 3 = .ok (.iconst 1, 1) := by decide +kernel
theorem d_Heap_member_4 : decode b_Heap_member 4 = .ok (.iadd, 1) := by decide +kernel
theorem d_Heap_member_5 : decode b_Heap_member 5 = .ok (.iload_n 2, 1) := by decide +kernel
theorem d_Heap_member_6 : decode b_Heap_member 6 = .ok (.iadd, 1) := by decide +kernel
theorem d_Heap_member_7 : decode b_Heap_member 7 = .ok (.istore_n 3, 1) := by decide +kernel
theorem d_Heap_member_8 : decode b_Heap_member 8 = .ok (.iload_n 2, 1) := by decide +kernel
theorem d_Heap_member_9 : decode b_Heap_member 9 = .ok (.ifCond .lt 30, 3) := by decide +kernel
theorem d_Heap_member_12 : decode b_Heap_member 12 = .ok (.iload_n 2, 1) := by decide +kernel
theorem d_Heap_member_13 : decode b_Heap_member 13 = .ok (.aload_n 0, 1) := by decide +kernel
theorem d_Heap_member_14 : decode b_Heap_member 14 = .ok (.iload_n 1, 1) := by decide +kernel
theorem d_Heap_member_15 : decode b_Heap_member 15 = .ok (.invokevirtual 125, 3) := by decide +kernel
theorem d_Heap_member_18 : decode b_Heap_member 18 = .ok (.if_icmp .ge 21, 3) := by decide +kernel
theorem d_Heap_member_21 : decode b_Heap_member 21 = .ok (.iload_n 3, 1) := by decide +kernel
theorem d_Heap_member_22 : decode b_Heap_member 22 = .ok (.aload_n 0, 1) := by decide +kernel
theorem d_Heap_member_23 : decode b_Heap_member 23 = .ok (.getfield 11, 3) := by decide +kernel
theorem d_Heap_member_26 : decode b_Heap_member 26 = .ok (.arraylength, 1) := by decide +kernel
theorem d_Heap_member_27 : decode b_Heap_member 27 = .ok (.if_icmp .ge 12, 3) := by decide +kernel
theorem d_Heap_member_30 : decode b_Heap_member 30 = .ok (.aload_n 0, 1) := by decide +kernel
theorem d_Heap_member_31 : decode b_Heap_member 31 = .ok (.getfield 11, 3) := by decide +kernel
theorem d_Heap_member_34 : decode b_Heap_member 34 = .ok (.iload_n 3, 1) := by decide +kernel
theorem d_Heap_member_35 : decode b_Heap_member 35 = .ok (.iaload, 1) := by decide +kernel
theorem d_Heap_member_36 : decode b_Heap_member 36 = .ok (.goto 5, 3) := by decide +kernel
theorem d_Heap_member_39 : decode b_Heap_member 39 = .ok (.ldc 71, 2) := by decide +kernel
theorem d_Heap_member_41 : decode b_Heap_member 41 = .ok (.ireturn, 1) := by decide +kernel
theorem lk_Heap_71 : Cond.constant "TurtleWorld$Heap" 71 (-2147483648) ∈ tw_T := tw_i1 184 (by decide +kernel) (by decide +kernel)
theorem lk_Heap_125 : Cond.methodLink "TurtleWorld$Heap" 125 ⟨"TurtleWorld$Heap", "count", "(I)I"⟩ ∈ tw_T := tw_i5 35 (by decide +kernel) (by decide +kernel)
theorem in_Heap_count : Cond.instanceMethod ⟨"TurtleWorld$Heap", "count", "(I)I"⟩ ∈ tw_T := tw_i5 36 (by decide +kernel) (by decide +kernel)
theorem sel_Heap_count : Cond.selects "TurtleWorld$Heap" ⟨"TurtleWorld$Heap", "count", "(I)I"⟩ ⟨"TurtleWorld$Heap", "count", "(I)I"⟩ ∈ tw_T := tw_i5 37 (by decide +kernel) (by decide +kernel)
theorem ini_Heap : Cond.initialized "TurtleWorld$Heap" ∈ tw_T := tw_i1 2 (by decide +kernel) (by decide +kernel)
theorem d_Heap_putMember_0 : decode b_Heap_putMember 0 = .ok (.iload_n 1, 1) := by decide +kernel
theorem d_Heap_putMember_1 : decode b_Heap_putMember 1 = .ok (.iconst 2, 1) := by decide +kernel
theorem d_Heap_putMember_2 : decode b_Heap_putMember 2 = .ok (.ishr, 1) := by decide +kernel
theorem d_Heap_putMember_3 : decode b_Heap_putMember 3 = .ok (.iconst 1, 1) := by decide +kernel
theorem d_Heap_putMember_4 : decode b_Heap_putMember 4 = .ok (.iadd, 1) := by decide +kernel
theorem d_Heap_putMember_5 : decode b_Heap_putMember 5 = .ok (.iload_n 2, 1) := by decide +kernel
theorem d_Heap_putMember_6 : decode b_Heap_putMember 6 = .ok (.iadd, 1) := by decide +kernel
theorem d_Heap_putMember_7 : decode b_Heap_putMember 7 = .ok (.istore 4, 2) := by decide +kernel
theorem d_Heap_putMember_9 : decode b_Heap_putMember 9 = .ok (.iload_n 2, 1) := by decide +kernel
theorem d_Heap_putMember_10 : decode b_Heap_putMember 10 = .ok (.ifCond .lt 30, 3) := by decide +kernel
theorem d_Heap_putMember_13 : decode b_Heap_putMember 13 = .ok (.iload_n 2, 1) := by decide +kernel
theorem d_Heap_putMember_14 : decode b_Heap_putMember 14 = .ok (.aload_n 0, 1) := by decide +kernel
theorem d_Heap_putMember_15 : decode b_Heap_putMember 15 = .ok (.iload_n 1, 1) := by decide +kernel
theorem d_Heap_putMember_16 : decode b_Heap_putMember 16 = .ok (.invokevirtual 125, 3) := by decide +kernel
theorem d_Heap_putMember_19 : decode b_Heap_putMember 19 = .ok (.if_icmp .ge 21, 3) := by decide +kernel
theorem d_Heap_putMember_22 : decode b_Heap_putMember 22 = .ok (.iload 4, 2) := by decide +kernel
theorem d_Heap_putMember_24 : decode b_Heap_putMember 24 = .ok (.aload_n 0, 1) := by decide +kernel
theorem d_Heap_putMember_25 : decode b_Heap_putMember 25 = .ok (.getfield 11, 3) := by decide +kernel
theorem d_Heap_putMember_28 : decode b_Heap_putMember 28 = .ok (.arraylength, 1) := by decide +kernel
theorem d_Heap_putMember_29 : decode b_Heap_putMember 29 = .ok (.if_icmp .ge 11, 3) := by decide +kernel
theorem d_Heap_putMember_32 : decode b_Heap_putMember 32 = .ok (.aload_n 0, 1) := by decide +kernel
theorem d_Heap_putMember_33 : decode b_Heap_putMember 33 = .ok (.getfield 11, 3) := by decide +kernel
theorem d_Heap_putMember_36 : decode b_Heap_putMember 36 = .ok (.iload 4, 2) := by decide +kernel
theorem d_Heap_putMember_38 : decode b_Heap_putMember 38 = .ok (.iload_n 3, 1) := by decide +kernel
theorem d_Heap_putMember_39 : decode b_Heap_putMember 39 = .ok (.iastore, 1) := by decide +kernel
theorem d_Heap_putMember_40 : decode b_Heap_putMember 40 = .ok (.return_, 1) := by decide +kernel
theorem d_Heap_size_0 : decode b_Heap_size 0 = .ok (.iload_n 1, 1) := by decide +kernel
theorem d_Heap_size_1 : decode b_Heap_size 1 = .ok (.iconst 2, 1) := by decide +kernel
theorem d_Heap_size_2 : decode b_Heap_size 2 = .ok (.ishr, 1) := by decide +kernel
theorem d_Heap_size_3 : decode b_Heap_size 3 = .ok (.istore_n 2, 1) := by decide +kernel
theorem d_Heap_size_4 : decode b_Heap_size 4 = .ok (.iload_n 1, 1) := by decide +kernel
theorem d_Heap_size_5 : decode b_Heap_size 5 = .ok (.iconst 1, 1) := by decide +kernel
theorem d_Heap_size_6 : decode b_Heap_size 6 = .ok (.iand, 1) := by decide +kernel
theorem d_Heap_size_7 : decode b_Heap_size 7 = .ok (.ifCond .eq 16, 3) := by decide +kernel
theorem d_Heap_size_10 : decode b_Heap_size 10 = .ok (.iload_n 2, 1) := by decide +kernel
theorem d_Heap_size_11 : decode b_Heap_size 11 = .ok (.ifCond .le 12, 3) := by decide +kernel
theorem d_Heap_size_14 : decode b_Heap_size 14 = .ok (.iload_n 2, 1) := by decide +kernel
theorem d_Heap_size_15 : decode b_Heap_size 15 = .ok (.aload_n 0, 1) := by decide +kernel
theorem d_Heap_size_16 : decode b_Heap_size 16 = .ok (.getfield 11, 3) := by decide +kernel
theorem d_Heap_size_19 : decode b_Heap_size 19 = .ok (.arraylength, 1) := by decide +kernel
theorem d_Heap_size_20 : decode b_Heap_size 20 = .ok (.if_icmp .lt 5, 3) := by decide +kernel
theorem d_Heap_size_23 : decode b_Heap_size 23 = .ok (.iconst 1, 1) := by decide +kernel
theorem d_Heap_size_24 : decode b_Heap_size 24 = .ok (.ireturn, 1) := by decide +kernel
theorem d_Heap_size_25 : decode b_Heap_size 25 = .ok (.iload_n 1, 1) := by decide +kernel
theorem d_Heap_size_26 : decode b_Heap_size 26 = .ok (.iconst 3, 1) := by decide +kernel
theorem d_Heap_size_27 : decode b_Heap_size 27 = .ok (.iand, 1) := by decide +kernel
theorem d_Heap_size_28 : decode b_Heap_size 28 = .ok (.iconst 1, 1) := by decide +kernel
theorem d_Heap_size_29 : decode b_Heap_size 29 = .ok (.if_icmp .ne 16, 3) := by decide +kernel
theorem d_Heap_size_32 : decode b_Heap_size 32 = .ok (.aload_n 0, 1) := by decide +kernel
theorem d_Heap_size_33 : decode b_Heap_size 33 = .ok (.getfield 11, 3) := by decide +kernel
theorem d_Heap_size_36 : decode b_Heap_size 36 = .ok (.iload_n 2, 1) := by decide +kernel
theorem d_Heap_size_37 : decode b_Heap_size 37 = .ok (.iaload, 1) := by decide +kernel
theorem d_Heap_size_38 : decode b_Heap_size 38 = .ok (.ldc 128, 2) := by decide +kernel
theorem d_Heap_size_40 : decode b_Heap_size 40 = .ok (.iand, 1) := by decide +kernel
theorem d_Heap_size_41 : decode b_Heap_size 41 = .ok (.bipush 13, 2) := by decide +kernel
theorem d_Heap_size_43 : decode b_Heap_size 43 = .ok (.ishr, 1) := by decide +kernel
theorem d_Heap_size_44 : decode b_Heap_size 44 = .ok (.ireturn, 1) := by decide +kernel
theorem d_Heap_size_45 : decode b_Heap_size 45 = .ok (.iconst 0, 1) := by decide +kernel
theorem d_Heap_size_46 : decode b_Heap_size 46 = .ok (.istore_n 3, 1) := by decide +kernel
theorem d_Heap_size_47 : decode b_Heap_size 47 = .ok (.iload_n 2, 1) := by decide +kernel
theorem d_Heap_size_48 : decode b_Heap_size 48 = .ok (.istore 4, 2) := by decide +kernel
theorem d_Heap_size_50 : decode b_Heap_size 50 = .ok (.iload 4, 2) := by decide +kernel
theorem d_Heap_size_52 : decode b_Heap_size 52 = .ok (.aload_n 0, 1) := by decide +kernel
theorem d_Heap_size_53 : decode b_Heap_size 53 = .ok (.getfield 11, 3) := by decide +kernel
theorem d_Heap_size_56 : decode b_Heap_size 56 = .ok (.arraylength, 1) := by decide +kernel
theorem d_Heap_size_57 : decode b_Heap_size 57 = .ok (.if_icmp .ge 22, 3) := by decide +kernel
theorem d_Heap_size_60 : decode b_Heap_size 60 = .ok (.aload_n 0, 1) := by decide +kernel
theorem d_Heap_size_61 : decode b_Heap_size 61 = .ok (.getfield 11, 3) := by decide +kernel
theorem d_Heap_size_64 : decode b_Heap_size 64 = .ok (.iload 4, 2) := by decide +kernel
theorem d_Heap_size_66 : decode b_Heap_size 66 = .ok (.iaload, 1) := by decide +kernel
theorem d_Heap_size_67 : decode b_Heap_size 67 = .ok (.ifCond .eq 12, 3) := by decide +kernel
theorem d_Heap_size_70 : decode b_Heap_size 70 = .ok (.iinc 3 1, 3) := by decide +kernel
theorem d_Heap_size_73 : decode b_Heap_size 73 = .ok (.iinc 4 1, 3) := by decide +kernel
theorem d_Heap_size_76 : decode b_Heap_size 76 = .ok (.goto (-26), 3) := by decide +kernel
theorem d_Heap_size_79 : decode b_Heap_size 79 = .ok (.iload_n 3, 1) := by decide +kernel
theorem d_Heap_size_80 : decode b_Heap_size 80 = .ok (.ireturn, 1) := by decide +kernel
theorem lk_Heap_128 : Cond.constant "TurtleWorld$Heap" 128 (-1073741825) ∈ tw_T := tw_i4 67 (by decide +kernel) (by decide +kernel)
theorem d_Heap_behind_0 : decode b_Heap_behind 0 = .ok (.iload_n 1, 1) := by decide +kernel
theorem d_Heap_behind_1 : decode b_Heap_behind 1 = .ok (.iconst 2, 1) := by decide +kernel
theorem d_Heap_behind_2 : decode b_Heap_behind 2 = .ok (.ishr, 1) := by decide +kernel
theorem d_Heap_behind_3 : decode b_Heap_behind 3 = .ok (.iconst 1, 1) := by decide +kernel
theorem d_Heap_behind_4 : decode b_Heap_behind 4 = .ok (.iadd, 1) := by decide +kernel
theorem d_Heap_behind_5 : decode b_Heap_behind 5 = .ok (.istore_n 2, 1) := by decide +kernel
theorem d_Heap_behind_6 : decode b_Heap_behind 6 = .ok (.iload_n 2, 1) := by decide +kernel
theorem d_Heap_behind_7 : decode b_Heap_behind 7 = .ok (.iconst 1, 1) := by decide +kernel
theorem d_Heap_behind_8 : decode b_Heap_behind 8 = .ok (.if_icmp .le 29, 3) := by decide +kernel
theorem d_Heap_behind_11 : decode b_Heap_behind 11 = .ok (.iload_n 2, 1) := by decide +kernel
theorem d_Heap_behind_12 : decode b_Heap_behind 12 = .ok (.aload_n 0, 1) := by decide +kernel
theorem d_Heap_behind_13 : decode b_Heap_behind 13 = .ok (.getfield 11, 3) := by decide +kernel
theorem d_Heap_behind_16 : decode b_Heap_behind 16 = .ok (.arraylength, 1) := by decide +kernel
theorem d_Heap_behind_17 : decode b_Heap_behind 17 = .ok (.if_icmp .ge 20, 3) := by decide +kernel
theorem d_Heap_behind_20 : decode b_Heap_behind 20 = .ok (.aload_n 0, 1) := by decide +kernel
theorem d_Heap_behind_21 : decode b_Heap_behind 21 = .ok (.getfield 11, 3) := by decide +kernel
theorem d_Heap_behind_24 : decode b_Heap_behind 24 = .ok (.iload_n 2, 1) := by decide +kernel
theorem d_Heap_behind_25 : decode b_Heap_behind 25 = .ok (.iaload, 1) := by decide +kernel
theorem d_Heap_behind_26 : decode b_Heap_behind 26 = .ok (.ifCond .eq 11, 3) := by decide +kernel
theorem d_Heap_behind_29 : decode b_Heap_behind 29 = .ok (.iload_n 2, 1) := by decide +kernel
theorem d_Heap_behind_30 : decode b_Heap_behind 30 = .ok (.iconst 2, 1) := by decide +kernel
theorem d_Heap_behind_31 : decode b_Heap_behind 31 = .ok (.ishl, 1) := by decide +kernel
theorem d_Heap_behind_32 : decode b_Heap_behind 32 = .ok (.iconst 3, 1) := by decide +kernel
theorem d_Heap_behind_33 : decode b_Heap_behind 33 = .ok (.ior, 1) := by decide +kernel
theorem d_Heap_behind_34 : decode b_Heap_behind 34 = .ok (.goto 5, 3) := by decide +kernel
theorem d_Heap_behind_37 : decode b_Heap_behind 37 = .ok (.ldc 71, 2) := by decide +kernel
theorem d_Heap_behind_39 : decode b_Heap_behind 39 = .ok (.ireturn, 1) := by decide +kernel
theorem d_Heap_sameWord_0 : decode b_Heap_sameWord 0 = .ok (.iload_n 1, 1) := by decide +kernel
theorem d_Heap_sameWord_1 : decode b_Heap_sameWord 1 = .ok (.iload_n 2, 1) := by decide +kernel
theorem d_Heap_sameWord_2 : decode b_Heap_sameWord 2 = .ok (.if_icmp .ne 5, 3) := by decide +kernel
theorem d_Heap_sameWord_5 : decode b_Heap_sameWord 5 = .ok (.iconst 1, 1) := by decide +kernel
theorem d_Heap_sameWord_6 : decode b_Heap_sameWord 6 = .ok (.ireturn, 1) := by decide +kernel
theorem d_Heap_sameWord_7 : decode b_Heap_sameWord 7 = .ok (.iload_n 1, 1) := by decide +kernel
theorem d_Heap_sameWord_8 : decode b_Heap_sameWord 8 = .ok (.iconst 2, 1) := by decide +kernel
theorem d_Heap_sameWord_9 : decode b_Heap_sameWord 9 = .ok (.ishr, 1) := by decide +kernel
theorem d_Heap_sameWord_10 : decode b_Heap_sameWord 10 = .ok (.istore_n 3, 1) := by decide +kernel
theorem d_Heap_sameWord_11 : decode b_Heap_sameWord 11 = .ok (.iload_n 2, 1) := by decide +kernel
theorem d_Heap_sameWord_12 : decode b_Heap_sameWord 12 = .ok (.iconst 2, 1) := by decide +kernel
theorem d_Heap_sameWord_13 : decode b_Heap_sameWord 13 = .ok (.ishr, 1) := by decide +kernel
theorem d_Heap_sameWord_14 : decode b_Heap_sameWord 14 = .ok (.istore 4, 2) := by decide +kernel
theorem d_Heap_sameWord_16 : decode b_Heap_sameWord 16 = .ok (.iload_n 3, 1) := by decide +kernel
theorem d_Heap_sameWord_17 : decode b_Heap_sameWord 17 = .ok (.ifCond .le 8, 3) := by decide +kernel
theorem d_Heap_sameWord_20 : decode b_Heap_sameWord 20 = .ok (.iload 4, 2) := by decide +kernel
theorem d_Heap_sameWord_22 : decode b_Heap_sameWord 22 = .ok (.ifCond .gt 5, 3) := by decide +kernel
theorem d_Heap_sameWord_25 : decode b_Heap_sameWord 25 = .ok (.iconst 0, 1) := by decide +kernel
theorem d_Heap_sameWord_26 : decode b_Heap_sameWord 26 = .ok (.ireturn, 1) := by decide +kernel
theorem d_Heap_sameWord_27 : decode b_Heap_sameWord 27 = .ok (.iconst 0, 1) := by decide +kernel
theorem d_Heap_sameWord_28 : decode b_Heap_sameWord 28 = .ok (.istore 5, 2) := by decide +kernel
theorem d_Heap_sameWord_30 : decode b_Heap_sameWord 30 = .ok (.iload_n 3, 1) := by decide +kernel
theorem d_Heap_sameWord_31 : decode b_Heap_sameWord 31 = .ok (.iload 5, 2) := by decide +kernel
theorem d_Heap_sameWord_33 : decode b_Heap_sameWord 33 = .ok (.iadd, 1) := by decide +kernel
theorem d_Heap_sameWord_34 : decode b_Heap_sameWord 34 = .ok (.aload_n 0, 1) := by decide +kernel
theorem d_Heap_sameWord_35 : decode b_Heap_sameWord 35 = .ok (.getfield 11, 3) := by decide +kernel
theorem d_Heap_sameWord_38 : decode b_Heap_sameWord 38 = .ok (.arraylength, 1) := by decide +kernel
theorem d_Heap_sameWord_39 : decode b_Heap_sameWord 39 = .ok (.if_icmp .ge 57, 3) := by decide +kernel
theorem d_Heap_sameWord_42 : decode b_Heap_sameWord 42 = .ok (.iload 4, 2) := by decide +kernel
theorem d_Heap_sameWord_44 : decode b_Heap_sameWord 44 = .ok (.iload 5, 2) := by decide +kernel
theorem d_Heap_sameWord_46 : decode b_Heap_sameWord 46 = .ok (.iadd, 1) := by decide +kernel
theorem d_Heap_sameWord_47 : decode b_Heap_sameWord 47 = .ok (.aload_n 0, 1) := by decide +kernel
theorem d_Heap_sameWord_48 : decode b_Heap_sameWord 48 = .ok (.getfield 11, 3) := by decide +kernel
theorem d_Heap_sameWord_51 : decode b_Heap_sameWord 51 = .ok (.arraylength, 1) := by decide +kernel
theorem d_Heap_sameWord_52 : decode b_Heap_sameWord 52 = .ok (.if_icmp .ge 44, 3) := by decide +kernel
theorem d_Heap_sameWord_55 : decode b_Heap_sameWord 55 = .ok (.aload_n 0, 1) := by decide +kernel
theorem d_Heap_sameWord_56 : decode b_Heap_sameWord 56 = .ok (.getfield 11, 3) := by decide +kernel
theorem d_Heap_sameWord_59 : decode b_Heap_sameWord 59 = .ok (.iload_n 3, 1) := by decide +kernel
theorem d_Heap_sameWord_60 : decode b_Heap_sameWord 60 = .ok (.iload 5, 2) := by decide +kernel
theorem d_Heap_sameWord_62 : decode b_Heap_sameWord 62 = .ok (.iadd, 1) := by decide +kernel
theorem d_Heap_sameWord_63 : decode b_Heap_sameWord 63 = .ok (.iaload, 1) := by decide +kernel
theorem d_Heap_sameWord_64 : decode b_Heap_sameWord 64 = .ok (.istore 6, 2) := by decide +kernel
theorem d_Heap_sameWord_66 : decode b_Heap_sameWord 66 = .ok (.iload 6, 2) := by decide +kernel
theorem d_Heap_sameWord_68 : decode b_Heap_sameWord 68 = .ok (.aload_n 0, 1) := by decide +kernel
theorem d_Heap_sameWord_69 : decode b_Heap_sameWord 69 = .ok (.getfield 11, 3) := by decide +kernel
theorem d_Heap_sameWord_72 : decode b_Heap_sameWord 72 = .ok (.iload 4, 2) := by decide +kernel
theorem d_Heap_sameWord_74 : decode b_Heap_sameWord 74 = .ok (.iload 5, 2) := by decide +kernel
theorem d_Heap_sameWord_76 : decode b_Heap_sameWord 76 = .ok (.iadd, 1) := by decide +kernel
theorem d_Heap_sameWord_77 : decode b_Heap_sameWord 77 = .ok (.iaload, 1) := by decide +kernel
theorem d_Heap_sameWord_78 : decode b_Heap_sameWord 78 = .ok (.if_icmp .eq 5, 3) := by decide +kernel
theorem d_Heap_sameWord_81 : decode b_Heap_sameWord 81 = .ok (.iconst 0, 1) := by decide +kernel
theorem d_Heap_sameWord_82 : decode b_Heap_sameWord 82 = .ok (.ireturn, 1) := by decide +kernel
theorem d_Heap_sameWord_83 : decode b_Heap_sameWord 83 = .ok (.iload 6, 2) := by decide +kernel
theorem d_Heap_sameWord_85 : decode b_Heap_sameWord 85 = .ok (.ifCond .ne 5, 3) := by decide +kernel
theorem d_Heap_sameWord_88 : decode b_Heap_sameWord 88 = .ok (.iconst 1, 1) := by decide +kernel
theorem d_Heap_sameWord_89 : decode b_Heap_sameWord 89 = .ok (.ireturn, 1) := by decide +kernel
theorem d_Heap_sameWord_90 : decode b_Heap_sameWord 90 = .ok (.iinc 5 1, 3) := by decide +kernel
theorem d_Heap_sameWord_93 : decode b_Heap_sameWord 93 = .ok (.goto (-63), 3) := by decide +kernel
theorem d_Heap_sameWord_96 : decode b_Heap_sameWord 96 = .ok (.iconst 0, 1) := by decide +kernel
theorem d_Heap_sameWord_97 : decode b_Heap_sameWord 97 = .ok (.ireturn, 1) := by decide +kernel
