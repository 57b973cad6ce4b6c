theorem d_Heap_newListOf_0 : decode b_Heap_newListOf 0 = .ok (.iload_n 2, 1) := by decide +kernel
theorem d_Heap_newListOf_1 : decode b_Heap_newListOf 1 = .ok (.ifCond .lt 15, 3) := by decide +kernel
theorem d_Heap_newListOf_4 : decode b_Heap_newListOf 4 = .ok (.iload_n 3, 1) := by decide +kernel
theorem d_Heap_newListOf_5 : decode b_Heap_newListOf 5 = .ok (.ifCond .lt 11, 3) := by decide +kernel
theorem d_Heap_newListOf_8 : decode b_Heap_newListOf 8 = .ok (.iload_n 3, 1) := by decide +kernel
theorem d_Heap_newListOf_9 : decode b_Heap_newListOf 9 = .ok (.aload_n 1, 1) := by decide +kernel
theorem d_Heap_newListOf_10 : decode b_Heap_newListOf 10 = .ok (.arraylength, 1) := by decide +kernel
theorem d_Heap_newListOf_11 : decode b_Heap_newListOf 11 = .ok (.iload_n 2, 1) := by decide +kernel
theorem d_Heap_newListOf_12 : decode b_Heap_newListOf 12 = .ok (.isub, 1) := by decide +kernel
theorem d_Heap_newListOf_13 : decode b_Heap_newListOf 13 = .ok (.if_icmp .le 6, 3) := by decide +kernel
theorem d_Heap_newListOf_16 : decode b_Heap_newListOf 16 = .ok (.ldc 71, 2) := by decide +kernel
theorem d_Heap_newListOf_18 : decode b_Heap_newListOf 18 = .ok (.ireturn, 1) := by decide +kernel
theorem d_Heap_newListOf_19 : decode b_Heap_newListOf 19 = .ok (.iconst 1, 1) := by decide +kernel
theorem d_Heap_newListOf_20 : decode b_Heap_newListOf 20 = .ok (.istore 4, 2) := by decide +kernel
theorem d_Heap_newListOf_22 : decode b_Heap_newListOf 22 = .ok (.iconst 0, 1) := by decide +kernel
theorem d_Heap_newListOf_23 : decode b_Heap_newListOf 23 = .ok (.istore 5, 2) := by decide +kernel
theorem d_Heap_newListOf_25 : decode b_Heap_newListOf 25 = .ok (.iload 5, 2) := by decide +kernel
theorem d_Heap_newListOf_27 : decode b_Heap_newListOf 27 = .ok (.iload_n 3, 1) := by decide +kernel
theorem d_Heap_newListOf_28 : decode b_Heap_newListOf 28 = .ok (.if_icmp .ge 24, 3) := by decide +kernel
theorem d_Heap_newListOf_31 : decode b_Heap_newListOf 31 = .ok (.iload 4, 2) := by decide +kernel
theorem d_Heap_newListOf_33 : decode b_Heap_newListOf 33 = .ok (.aload_n 0, 1) := by decide +kernel
theorem d_Heap_newListOf_34 : decode b_Heap_newListOf 34 = .ok (.aload_n 1, 1) := by decide +kernel
theorem d_Heap_newListOf_35 : decode b_Heap_newListOf 35 = .ok (.iload_n 2, 1) := by decide +kernel
theorem d_Heap_newListOf_36 : decode b_Heap_newListOf 36 = .ok (.iload 5, 2) := by decide +kernel
theorem d_Heap_newListOf_38 : decode b_Heap_newListOf 38 = .ok (.iadd, 1) := by decide +kernel
theorem d_Heap_newListOf_39 : decode b_Heap_newListOf 39 = .ok (.iaload, 1) := by decide +kernel
theorem d_Heap_newListOf_40 : decode b_Heap_newListOf 40 = .ok (.invokevirtual 119, 3) := by decide +kernel
theorem d_Heap_newListOf_43 : decode b_Heap_newListOf 43 = .ok (.iadd, 1) := by decide +kernel
theorem d_Heap_newListOf_44 : decode b_Heap_newListOf 44 = .ok (.istore 4, 2) := by decide +kernel
theorem d_Heap_newListOf_46 : decode b_Heap_newListOf 46 = .ok (.iinc 5 1, 3) := by decide +kernel
theorem d_Heap_newListOf_49 : decode b_Heap_newListOf 49 = .ok (.goto (-24), 3) := by decide +kernel
theorem d_Heap_newListOf_52 : decode b_Heap_newListOf 52 = .ok (.aload_n 0, 1) := by decide +kernel
theorem d_Heap_newListOf_53 : decode b_Heap_newListOf 53 = .ok (.iload_n 3, 1) := by decide +kernel
theorem d_Heap_newListOf_54 : decode b_Heap_newListOf 54 = .ok (.iload 4, 2) := by decide +kernel
theorem d_Heap_newListOf_56 : decode b_Heap_newListOf 56 = .ok (.invokevirtual 122, 3) := by decide +kernel
theorem d_Heap_newListOf_59 : decode b_Heap_newListOf 59 = .ok (.istore 5, 2) := by decide +kernel
theorem d_Heap_newListOf_61 : decode b_Heap_newListOf 61 = .ok (.iload 5, 2) := by decide +kernel
theorem d_Heap_newListOf_63 : decode b_Heap_newListOf 63 = .ok (.ldc 71, 2) := by decide +kernel
theorem d_Heap_newListOf_65 : decode b_Heap_newListOf 65 = .ok (.if_icmp .eq 19, 3) := by decide +kernel
theorem d_Heap_newListOf_68 : decode b_Heap_newListOf 68 = .ok (.aload_n 1, 1) := by decide +kernel
theorem d_Heap_newListOf_69 : decode b_Heap_newListOf 69 = .ok (.iload_n 2, 1) := by decide +kernel
theorem d_Heap_newListOf_70 : decode b_Heap_newListOf 70 = .ok (.aload_n 0, 1) := by decide +kernel
theorem d_Heap_newListOf_71 : decode b_Heap_newListOf 71 = .ok (.getfield 11, 3) := by decide +kernel
theorem d_Heap_newListOf_74 : decode b_Heap_newListOf 74 = .ok (.iload 5, 2) := by decide +kernel
theorem d_Heap_newListOf_76 : decode b_Heap_newListOf 76 = .ok (.iconst 2, 1) := by decide +kernel
theorem d_Heap_newListOf_77 : decode b_Heap_newListOf 77 = .ok (.ishr, 1) := by decide +kernel
theorem d_Heap_newListOf_78 : decode b_Heap_newListOf 78 = .ok (.iconst 1, 1) := by decide +kernel
theorem d_Heap_newListOf_79 : decode b_Heap_newListOf 79 = .ok (.iadd, 1) := by decide +kernel
theorem d_Heap_newListOf_80 : decode b_Heap_newListOf 80 = .ok (.iload_n 3, 1) := by decide +kernel
theorem d_Heap_newListOf_81 : decode b_Heap_newListOf 81 = .ok (.invokestatic 106, 3) := by decide +kernel
theorem d_Heap_newListOf_84 : decode b_Heap_newListOf 84 = .ok (.iload 5, 2) := by decide +kernel
theorem d_Heap_newListOf_86 : decode b_Heap_newListOf 86 = .ok (.ireturn, 1) := by decide +kernel
theorem lk_Heap_122 : Cond.methodLink "TurtleWorld$Heap" 122 ⟨"TurtleWorld$Heap", "newList", "(II)I"⟩ ∈ tw_T := tw_i4 68 (by decide +kernel) (by decide +kernel)
theorem in_Heap_newList : Cond.instanceMethod ⟨"TurtleWorld$Heap", "newList", "(II)I"⟩ ∈ tw_T := tw_i4 69 (by decide +kernel) (by decide +kernel)
theorem sel_Heap_newList : Cond.selects "TurtleWorld$Heap" ⟨"TurtleWorld$Heap", "newList", "(II)I"⟩ ⟨"TurtleWorld$Heap", "newList", "(II)I"⟩ ∈ tw_T := tw_i4 70 (by decide +kernel) (by decide +kernel)
theorem lk_Reader_123 : Cond.methodLink "TurtleWorld$Reader" 123 ⟨"TurtleWorld$Heap", "newListOf", "([III)I"⟩ ∈ tw_T := tw_i4 59 (by decide +kernel) (by decide +kernel)
theorem in_Heap_newListOf : Cond.instanceMethod ⟨"TurtleWorld$Heap", "newListOf", "([III)I"⟩ ∈ tw_T := tw_i4 60 (by decide +kernel) (by decide +kernel)
theorem sel_Heap_newListOf : Cond.selects "TurtleWorld$Heap" ⟨"TurtleWorld$Heap", "newListOf", "([III)I"⟩ ⟨"TurtleWorld$Heap", "newListOf", "([III)I"⟩ ∈ tw_T := tw_i4 61 (by decide +kernel) (by decide +kernel)
theorem lk_Reader_174 : Cond.fieldLink "TurtleWorld$Reader" 174 "TurtleWorld$Reader" "lineList" "I" ∈ tw_T := tw_i2 173 (by decide +kernel) (by decide +kernel)
theorem lk_Reader_127 : Cond.constant "TurtleWorld$Reader" 127 (-2147483648) ∈ tw_T := tw_i4 77 (by decide +kernel) (by decide +kernel)
theorem d_Heap_beginCollecting_0 : decode b_Heap_beginCollecting 0 = .ok (.aload_n 0, 1) := by decide +kernel
theorem d_Heap_beginCollecting_1 : decode b_Heap_beginCollecting 1 = .ok (.getfield 11, 3) := by decide +kernel
theorem d_Heap_beginCollecting_4 : decode b_Heap_beginCollecting 4 = .ok (.iconst 0, 1) := by decide +kernel
theorem d_Heap_beginCollecting_5 : decode b_Heap_beginCollecting 5 = .ok (.aload_n 0, 1) := by decide +kernel
theorem d_Heap_beginCollecting_6 : decode b_Heap_beginCollecting 6 = .ok (.getfield 15, 3) := by decide +kernel
theorem d_Heap_beginCollecting_9 : decode b_Heap_beginCollecting 9 = .ok (.iconst 0, 1) := by decide +kernel
theorem d_Heap_beginCollecting_10 : decode b_Heap_beginCollecting 10 = .ok (.aload_n 0, 1) := by decide +kernel
theorem d_Heap_beginCollecting_11 : decode b_Heap_beginCollecting 11 = .ok (.getfield 54, 3) := by decide +kernel
theorem d_Heap_beginCollecting_14 : decode b_Heap_beginCollecting 14 = .ok (.invokestatic 106, 3) := by decide +kernel
theorem d_Heap_beginCollecting_17 : decode b_Heap_beginCollecting 17 = .ok (.aload_n 0, 1) := by decide +kernel
theorem d_Heap_beginCollecting_18 : decode b_Heap_beginCollecting 18 = .ok (.aload_n 0, 1) := by decide +kernel
theorem d_Heap_beginCollecting_19 : decode b_Heap_beginCollecting 19 = .ok (.getfield 54, 3) := by decide +kernel
theorem d_Heap_beginCollecting_22 : decode b_Heap_beginCollecting 22 = .ok (.putfield 153, 3) := by decide +kernel
theorem d_Heap_beginCollecting_25 : decode b_Heap_beginCollecting 25 = .ok (.return_, 1) := by decide +kernel
theorem lk_Heap_153 : Cond.fieldLink "TurtleWorld$Heap" 153 "TurtleWorld$Heap" "spareTop" "I" ∈ tw_T := tw_i1 213 (by decide +kernel) (by decide +kernel)
theorem d_Heap_reserveSpare_0 : decode b_Heap_reserveSpare 0 = .ok (.aload_n 0, 1) := by decide +kernel
theorem d_Heap_reserveSpare_1 : decode b_Heap_reserveSpare 1 = .ok (.getfield 153, 3) := by decide +kernel
theorem d_Heap_reserveSpare_4 : decode b_Heap_reserveSpare 4 = .ok (.iload_n 1, 1) := by decide +kernel
theorem d_Heap_reserveSpare_5 : decode b_Heap_reserveSpare 5 = .ok (.iadd, 1) := by decide +kernel
theorem d_Heap_reserveSpare_6 : decode b_Heap_reserveSpare 6 = .ok (.istore_n 2, 1) := by decide +kernel
theorem d_Heap_reserveSpare_7 : decode b_Heap_reserveSpare 7 = .ok (.iload_n 2, 1) := by decide +kernel
theorem d_Heap_reserveSpare_8 : decode b_Heap_reserveSpare 8 = .ok (.ldc 89, 2) := by decide +kernel
theorem d_Heap_reserveSpare_10 : decode b_Heap_reserveSpare 10 = .ok (.if_icmp .le 5, 3) := by decide +kernel
theorem d_Heap_reserveSpare_13 : decode b_Heap_reserveSpare 13 = .ok (.iconst 0, 1) := by decide +kernel
theorem d_Heap_reserveSpare_14 : decode b_Heap_reserveSpare 14 = .ok (.ireturn, 1) := by decide +kernel
theorem d_Heap_reserveSpare_15 : decode b_Heap_reserveSpare 15 = .ok (.iload_n 2, 1) := by decide +kernel
theorem d_Heap_reserveSpare_16 : decode b_Heap_reserveSpare 16 = .ok (.aload_n 0, 1) := by decide +kernel
theorem d_Heap_reserveSpare_17 : decode b_Heap_reserveSpare 17 = .ok (.getfield 15, 3) := by decide +kernel
theorem d_Heap_reserveSpare_20 : decode b_Heap_reserveSpare 20 = .ok (.arraylength, 1) := by decide +kernel
theorem d_Heap_reserveSpare_21 : decode b_Heap_reserveSpare 21 = .ok (.if_icmp .le 30, 3) := by decide +kernel
theorem d_Heap_reserveSpare_24 : decode b_Heap_reserveSpare 24 = .ok (.aload_n 0, 1) := by decide +kernel
theorem d_Heap_reserveSpare_25 : decode b_Heap_reserveSpare 25 = .ok (.aload_n 0, 1) := by decide +kernel
theorem d_Heap_reserveSpare_26 : decode b_Heap_reserveSpare 26 = .ok (.getfield 15, 3) := by decide +kernel
theorem d_Heap_reserveSpare_29 : decode b_Heap_reserveSpare 29 = .ok (.ldc 89, 2) := by decide +kernel
theorem d_Heap_reserveSpare_31 : decode b_Heap_reserveSpare 31 = .ok (.iconst 2, 1) := by decide +kernel
theorem d_Heap_reserveSpare_32 : decode b_Heap_reserveSpare 32 = .ok (.aload_n 0, 1) := by decide +kernel
theorem d_Heap_reserveSpare_33 : decode b_Heap_reserveSpare 33 = .ok (.getfield 15, 3) := by decide +kernel
theorem d_Heap_reserveSpare_36 : decode b_Heap_reserveSpare 36 = .ok (.arraylength, 1) := by decide +kernel
theorem d_Heap_reserveSpare_37 : decode b_Heap_reserveSpare 37 = .ok (.imul, 1) := by decide +kernel
theorem d_Heap_reserveSpare_38 : decode b_Heap_reserveSpare 38 = .ok (.iload_n 2, 1) := by decide +kernel
theorem d_Heap_reserveSpare_39 : decode b_Heap_reserveSpare 39 = .ok (.invokestatic 90, 3) := by decide +kernel
theorem d_Heap_reserveSpare_42 : decode b_Heap_reserveSpare 42 = .ok (.invokestatic 94, 3) := by decide +kernel
theorem d_Heap_reserveSpare_45 : decode b_Heap_reserveSpare 45 = .ok (.invokestatic 96, 3) := by decide +kernel
theorem d_Heap_reserveSpare_48 : decode b_Heap_reserveSpare 48 = .ok (.putfield 15, 3) := by decide +kernel
theorem d_Heap_reserveSpare_51 : decode b_Heap_reserveSpare 51 = .ok (.iconst 1, 1) := by decide +kernel
theorem d_Heap_reserveSpare_52 : decode b_Heap_reserveSpare 52 = .ok (.ireturn, 1) := by decide +kernel
theorem d_Heap_movedList_0 : decode b_Heap_movedList 0 = .ok (.aload_n 0, 1) := by decide +kernel
theorem d_Heap_movedList_1 : decode b_Heap_movedList 1 = .ok (.getfield 11, 3) := by decide +kernel
theorem d_Heap_movedList_4 : decode b_Heap_movedList 4 = .ok (.iload_n 1, 1) := by decide +kernel
theorem d_Heap_movedList_5 : decode b_Heap_movedList 5 = .ok (.iaload, 1) := by decide +kernel
theorem d_Heap_movedList_6 : decode b_Heap_movedList 6 = .ok (.istore_n 2, 1) := by decide +kernel
theorem d_Heap_movedList_7 : decode b_Heap_movedList 7 = .ok (.iload_n 2, 1) := by decide +kernel
theorem d_Heap_movedList_8 : decode b_Heap_movedList 8 = .ok (.ifCond .ge 10, 3) := by decide +kernel
theorem d_Heap_movedList_11 : decode b_Heap_movedList 11 = .ok (.iload_n 2, 1) := by decide +kernel
theorem d_Heap_movedList_12 : decode b_Heap_movedList 12 = .ok (.ineg, 1) := by decide +kernel
theorem d_Heap_movedList_13 : decode b_Heap_movedList 13 = .ok (.iconst 2, 1) := by decide +kernel
theorem d_Heap_movedList_14 : decode b_Heap_movedList 14 = .ok (.ishl, 1) := by decide +kernel
theorem d_Heap_movedList_15 : decode b_Heap_movedList 15 = .ok (.iconst 1, 1) := by decide +kernel
theorem d_Heap_movedList_16 : decode b_Heap_movedList 16 = .ok (.ior, 1) := by decide +kernel
theorem d_Heap_movedList_17 : decode b_Heap_movedList 17 = .ok (.ireturn, 1) := by decide +kernel
theorem d_Heap_movedList_18 : decode b_Heap_movedList 18 = .ok (.iload_n 2, 1) := by decide +kernel
theorem d_Heap_movedList_19 : decode b_Heap_movedList 19 = .ok (.sipush 8191, 3) := by decide +kernel
theorem d_Heap_movedList_22 : decode b_Heap_movedList 22 = .ok (.iand, 1) := by decide +kernel
theorem d_Heap_movedList_23 : decode b_Heap_movedList 23 = .ok (.iconst 1, 1) := by decide +kernel
theorem d_Heap_movedList_24 : decode b_Heap_movedList 24 = .ok (.iadd, 1) := by decide +kernel
theorem d_Heap_movedList_25 : decode b_Heap_movedList 25 = .ok (.istore_n 3, 1) := by decide +kernel
theorem d_Heap_movedList_26 : decode b_Heap_movedList 26 = .ok (.iload_n 3, 1) := by decide +kernel
theorem d_Heap_movedList_27 : decode b_Heap_movedList 27 = .ok (.aload_n 0, 1) := by decide +kernel
theorem d_Heap_movedList_28 : decode b_Heap_movedList 28 = .ok (.getfield 11, 3) := by decide +kernel
theorem d_Heap_movedList_31 : decode b_Heap_movedList 31 = .ok (.arraylength, 1) := by decide +kernel
theorem d_Heap_movedList_32 : decode b_Heap_movedList 32 = .ok (.iload_n 1, 1) := by decide +kernel
theorem d_Heap_movedList_33 : decode b_Heap_movedList 33 = .ok (.isub, 1) := by decide +kernel
theorem d_Heap_movedList_34 : decode b_Heap_movedList 34 = .ok (.if_icmp .gt 11, 3) := by decide +kernel
theorem d_Heap_movedList_37 : decode b_Heap_movedList 37 = .ok (.aload_n 0, 1) := by decide +kernel
theorem d_Heap_movedList_38 : decode b_Heap_movedList 38 = .ok (.iload_n 3, 1) := by decide +kernel
theorem d_Heap_movedList_39 : decode b_Heap_movedList 39 = .ok (.invokevirtual 165, 3) := by decide +kernel
theorem d_Heap_movedList_42 : decode b_Heap_movedList 42 = .ok (.ifCond .ne 6, 3) := by decide +kernel
theorem d_Heap_movedList_45 : decode b_Heap_movedList 45 = .ok (.ldc 71, 2) := by decide +kernel
theorem d_Heap_movedList_47 : decode b_Heap_movedList 47 = .ok (.ireturn, 1) := by decide +kernel
theorem d_Heap_movedList_48 : decode b_Heap_movedList 48 = .ok (.aload_n 0, 1) := by decide +kernel
theorem d_Heap_movedList_49 : decode b_Heap_movedList 49 = .ok (.getfield 153, 3) := by decide +kernel
theorem d_Heap_movedList_52 : decode b_Heap_movedList 52 = .ok (.istore 4, 2) := by decide +kernel
theorem d_Heap_movedList_54 : decode b_Heap_movedList 54 = .ok (.aload_n 0, 1) := by decide +kernel
theorem d_Heap_movedList_55 : decode b_Heap_movedList 55 = .ok (.getfield 11, 3) := by decide +kernel
theorem d_Heap_movedList_58 : decode b_Heap_movedList 58 = .ok (.iload_n 1, 1) := by decide +kernel
theorem d_Heap_movedList_59 : decode b_Heap_movedList 59 = .ok (.aload_n 0, 1) := by decide +kernel
theorem d_Heap_movedList_60 : decode b_Heap_movedList 60 = .ok (.getfield 15, 3) := by decide +kernel
theorem d_Heap_movedList_63 : decode b_Heap_movedList 63 = .ok (.iload 4, 2) := by decide +kernel
theorem d_Heap_movedList_65 : decode b_Heap_movedList 65 = .ok (.iload_n 3, 1) := by decide +kernel
theorem d_Heap_movedList_66 : decode b_Heap_movedList 66 = .ok (.invokestatic 106, 3) := by decide +kernel
theorem d_Heap_movedList_69 : decode b_Heap_movedList 69 = .ok (.aload_n 0, 1) := by decide +kernel
theorem d_Heap_movedList_70 : decode b_Heap_movedList 70 = .ok (.iload 4, 2) := by decide +kernel
theorem d_Heap_movedList_72 : decode b_Heap_movedList 72 = .ok (.iload_n 3, 1) := by decide +kernel
theorem d_Heap_movedList_73 : decode b_Heap_movedList 73 = .ok (.iadd, 1) := by decide +kernel
theorem d_Heap_movedList_74 : decode b_Heap_movedList 74 = .ok (.putfield 153, 3) := by decide +kernel
theorem d_Heap_movedList_77 : decode b_Heap_movedList 77 = .ok (.aload_n 0, 1) := by decide +kernel
theorem d_Heap_movedList_78 : decode b_Heap_movedList 78 = .ok (.getfield 11, 3) := by decide +kernel
theorem d_Heap_movedList_81 : decode b_Heap_movedList 81 = .ok (.iload_n 1, 1) := by decide +kernel
theorem d_Heap_movedList_82 : decode b_Heap_movedList 82 = .ok (.iload 4, 2) := by decide +kernel
theorem d_Heap_movedList_84 : decode b_Heap_movedList 84 = .ok (.ineg, 1) := by decide +kernel
theorem d_Heap_movedList_85 : decode b_Heap_movedList 85 = .ok (.iastore, 1) := by decide +kernel
theorem d_Heap_movedList_86 : decode b_Heap_movedList 86 = .ok (.iload 4, 2) := by decide +kernel
theorem d_Heap_movedList_88 : decode b_Heap_movedList 88 = .ok (.iconst 2, 1) := by decide +kernel
theorem d_Heap_movedList_89 : decode b_Heap_movedList 89 = .ok (.ishl, 1) := by decide +kernel
theorem d_Heap_movedList_90 : decode b_Heap_movedList 90 = .ok (.iconst 1, 1) := by decide +kernel
theorem d_Heap_movedList_91 : decode b_Heap_movedList 91 = .ok (.ior, 1) := by decide +kernel
theorem d_Heap_movedList_92 : decode b_Heap_movedList 92 = .ok (.ireturn, 1) := by decide +kernel
theorem lk_Heap_165 : Cond.methodLink "TurtleWorld$Heap" 165 ⟨"TurtleWorld$Heap", "reserveSpare", "(I)Z"⟩ ∈ tw_T := tw_i4 184 (by decide +kernel) (by decide +kernel)
theorem in_Heap_reserveSpare : Cond.instanceMethod ⟨"TurtleWorld$Heap", "reserveSpare", "(I)Z"⟩ ∈ tw_T := tw_i4 186 (by decide +kernel) (by decide +kernel)
theorem sel_Heap_reserveSpare : Cond.selects "TurtleWorld$Heap" ⟨"TurtleWorld$Heap", "reserveSpare", "(I)Z"⟩ ⟨"TurtleWorld$Heap", "reserveSpare", "(I)Z"⟩ ∈ tw_T := tw_inS 27 (by decide +kernel) (by decide +kernel)
theorem d_Heap_moved_0 : decode b_Heap_moved 0 = .ok (.iload_n 1, 1) := by decide +kernel
theorem d_Heap_moved_1 : decode b_Heap_moved 1 = .ok (.iconst 2, 1) := by decide +kernel
theorem d_Heap_moved_2 : decode b_Heap_moved 2 = .ok (.ishr, 1) := by decide +kernel
theorem d_Heap_moved_3 : decode b_Heap_moved 3 = .ok (.istore_n 2, 1) := by decide +kernel
theorem d_Heap_moved_4 : decode b_Heap_moved 4 = .ok (.iload_n 1, 1) := by decide +kernel
theorem d_Heap_moved_5 : decode b_Heap_moved 5 = .ok (.invokestatic 156, 3) := by decide +kernel
theorem d_Heap_moved_8 : decode b_Heap_moved 8 = .ok (.ifCond .ne 20, 3) := by decide +kernel
theorem d_Heap_moved_11 : decode b_Heap_moved 11 = .ok (.iload_n 2, 1) := by decide +kernel
theorem d_Heap_moved_12 : decode b_Heap_moved 12 = .ok (.aload_n 0, 1) := by decide +kernel
theorem d_Heap_moved_13 : decode b_Heap_moved 13 = .ok (.getfield 54, 3) := by decide +kernel
theorem d_Heap_moved_16 : decode b_Heap_moved 16 = .ok (.if_icmp .lt 12, 3) := by decide +kernel
theorem d_Heap_moved_19 : decode b_Heap_moved 19 = .ok (.iload_n 2, 1) := by decide +kernel
theorem d_Heap_moved_20 : decode b_Heap_moved 20 = .ok (.aload_n 0, 1) := by decide +kernel
theorem d_Heap_moved_21 : decode b_Heap_moved 21 = .ok (.getfield 11, 3) := by decide +kernel
theorem d_Heap_moved_24 : decode b_Heap_moved 24 = .ok (.arraylength, 1) := by decide +kernel
theorem d_Heap_moved_25 : decode b_Heap_moved 25 = .ok (.if_icmp .lt 5, 3) := by decide +kernel
theorem d_Heap_moved_28 : decode b_Heap_moved 28 = .ok (.iload_n 1, 1) := by decide +kernel
theorem d_Heap_moved_29 : decode b_Heap_moved 29 = .ok (.ireturn, 1) := by decide +kernel
theorem d_Heap_moved_30 : decode b_Heap_moved 30 = .ok (.iload_n 1, 1) := by decide +kernel
theorem d_Heap_moved_31 : decode b_Heap_moved 31 = .ok (.invokestatic 143, 3) := by decide +kernel
theorem d_Heap_moved_34 : decode b_Heap_moved 34 = .ok (.ifCond .eq 11, 3) := by decide +kernel
theorem d_Heap_moved_37 : decode b_Heap_moved 37 = .ok (.aload_n 0, 1) := by decide +kernel
theorem d_Heap_moved_38 : decode b_Heap_moved 38 = .ok (.iload_n 2, 1) := by decide +kernel
theorem d_Heap_moved_39 : decode b_Heap_moved 39 = .ok (.invokevirtual 159, 3) := by decide +kernel
theorem d_Heap_moved_42 : decode b_Heap_moved 42 = .ok (.goto 8, 3) := by decide +kernel
theorem d_Heap_moved_45 : decode b_Heap_moved 45 = .ok (.aload_n 0, 1) := by decide +kernel
theorem d_Heap_moved_46 : decode b_Heap_moved 46 = .ok (.iload_n 2, 1) := by decide +kernel
theorem d_Heap_moved_47 : decode b_Heap_moved 47 = .ok (.invokevirtual 162, 3) := by decide +kernel
theorem d_Heap_moved_50 : decode b_Heap_moved 50 = .ok (.ireturn, 1) := by decide +kernel
theorem lk_Heap_156 : Cond.methodLink "TurtleWorld$Heap" 156 ⟨"TurtleWorld$Heap", "isNumber", "(I)Z"⟩ ∈ tw_T := tw_i4 174 (by decide +kernel) (by decide +kernel)
theorem st_Heap_isNumber : Cond.static ⟨"TurtleWorld$Heap", "isNumber", "(I)Z"⟩ ∈ tw_T := tw_i4 175 (by decide +kernel) (by decide +kernel)
theorem lk_Heap_159 : Cond.methodLink "TurtleWorld$Heap" 159 ⟨"TurtleWorld$Heap", "movedList", "(I)I"⟩ ∈ tw_T := tw_i4 180 (by decide +kernel) (by decide +kernel)
theorem in_Heap_movedList : Cond.instanceMethod ⟨"TurtleWorld$Heap", "movedList", "(I)I"⟩ ∈ tw_T := tw_i4 182 (by decide +kernel) (by decide +kernel)
theorem sel_Heap_movedList : Cond.selects "TurtleWorld$Heap" ⟨"TurtleWorld$Heap", "movedList", "(I)I"⟩ ⟨"TurtleWorld$Heap", "movedList", "(I)I"⟩ ∈ tw_T := tw_inS 26 (by decide +kernel) (by decide +kernel)
theorem d_Names_moveAll_0 : decode b_Names_moveAll 0 = .ok (.iconst 0, 1) := by decide +kernel
theorem d_Names_moveAll_1 : decode b_Names_moveAll 1 = .ok (.istore_n 1, 1) := by decide +kernel
theorem d_Names_moveAll_2 : decode b_Names_moveAll 2 = .ok (.iload_n 1, 1) := by decide +kernel
theorem d_Names_moveAll_3 : decode b_Names_moveAll 3 = .ok (.aload_n 0, 1) := by decide +kernel
theorem d_Names_moveAll_4 : decode b_Names_moveAll 4 = .ok (.getfield 41, 3) := by decide +kernel
theorem d_Names_moveAll_7 : decode b_Names_moveAll 7 = .ok (.if_icmp .ge 47, 3) := by decide +kernel
theorem d_Names_moveAll_10 : decode b_Names_moveAll 10 = .ok (.aload_n 0, 1) := by decide +kernel
theorem d_Names_moveAll_11 : decode b_Names_moveAll 11 = .ok (.getfield 11, 3) := by decide +kernel
theorem d_Names_moveAll_14 : decode b_Names_moveAll 14 = .ok (.iload_n 1, 1) := by decide +kernel
theorem d_Names_moveAll_15 : decode b_Names_moveAll 15 = .ok (.aload_n 0, 1) := by decide +kernel
theorem d_Names_moveAll_16 : decode b_Names_moveAll 16 = .ok (.getfield 27, 3) := by decide +kernel
theorem d_Names_moveAll_19 : decode b_Names_moveAll 19 = .ok (.aload_n 0, 1) := by decide +kernel
theorem d_Names_moveAll_20 : decode b_Names_moveAll 20 = .ok (.getfield 11, 3) := by decide +kernel
theorem d_Names_moveAll_23 : decode b_Names_moveAll 23 = .ok (.iload_n 1, 1) := by decide +kernel
theorem d_Names_moveAll_24 : decode b_Names_moveAll 24 = .ok (.iaload, 1) := by decide +kernel
theorem d_Names_moveAll_25 : decode b_Names_moveAll 25 = .ok (.invokevirtual 63, 3) := by decide +kernel
theorem d_Names_moveAll_28 : decode b_Names_moveAll 28 = .ok (.iastore, 1) := by decide +kernel
theorem d_Names_moveAll_29 : decode b_Names_moveAll 29 = .ok (.aload_n 0, 1) := by decide +kernel
theorem d_Names_moveAll_30 : decode b_Names_moveAll 30 = .ok (.getfield 15, 3) := by decide +kernel
theorem d_Names_moveAll_33 : decode b_Names_moveAll 33 = .ok (.iload_n 1, 1) := by decide +kernel
theorem d_Names_moveAll_34 : decode b_Names_moveAll 34 = .ok (.aload_n 0, 1) := by decide +kernel
theorem d_Names_moveAll_35 : decode b_Names_moveAll 35 = .ok (.getfield 27, 3) := by decide +kernel
theorem d_Names_moveAll_38 : decode b_Names_moveAll 38 = .ok (.aload_n 0, 1) := by decide +kernel
theorem d_Names_moveAll_39 : decode b_Names_moveAll 39 = .ok (.getfield 15, 3) := by decide +kernel
theorem d_Names_moveAll_42 : decode b_Names_moveAll 42 = .ok (.iload_n 1, 1) := by decide +kernel
theorem d_Names_moveAll_43 : decode b_Names_moveAll 43 = .ok (.iaload, 1) := by decide +kernel
theorem d_Names_moveAll_44 : decode b_Names_moveAll 44 = .ok (.invokevirtual 63, 3) := by decide +kernel
theorem d_Names_moveAll_47 : decode b_Names_moveAll 47 = .ok (.iastore, 1) := by decide +kernel
theorem d_Names_moveAll_48 : decode b_Names_moveAll 48 = .ok (.iinc 1 1, 3) := by decide +kernel
theorem d_Names_moveAll_51 : decode b_Names_moveAll 51 = .ok (.goto (-49), 3) := by decide +kernel
theorem d_Names_moveAll_54 : decode b_Names_moveAll 54 = .ok (.return_, 1) := by decide +kernel
theorem d_Procedures_moveAll_0 : decode b_Procedures_moveAll 0 = .ok (.iconst 0, 1) := by decide +kernel
theorem d_Procedures_moveAll_1 : decode b_Procedures_moveAll 1 = .ok (.istore_n 1, 1) := by decide +kernel
theorem d_Procedures_moveAll_2 : decode b_Procedures_moveAll 2 = .ok (.iload_n 1, 1) := by decide +kernel
theorem d_Procedures_moveAll_3 : decode b_Procedures_moveAll 3 = .ok (.aload_n 0, 1) := by decide +kernel
theorem d_Procedures_moveAll_4 : decode b_Procedures_moveAll 4 = .ok (.getfield 31, 3) := by decide +kernel
theorem d_Procedures_moveAll_7 : decode b_Procedures_moveAll 7 = .ok (.if_icmp .ge 66, 3) := by decide +kernel
theorem d_Procedures_moveAll_10 : decode b_Procedures_moveAll 10 = .ok (.aload_n 0, 1) := by decide +kernel
theorem d_Procedures_moveAll_11 : decode b_Procedures_moveAll 11 = .ok (.getfield 11, 3) := by decide +kernel
theorem d_Procedures_moveAll_14 : decode b_Procedures_moveAll 14 = .ok (.iload_n 1, 1) := by decide +kernel
theorem d_Procedures_moveAll_15 : decode b_Procedures_moveAll 15 = .ok (.aload_n 0, 1) := by decide +kernel
theorem d_Procedures_moveAll_16 : decode b_Procedures_moveAll 16 = .ok (.getfield 27, 3) := by decide +kernel
theorem d_Procedures_moveAll_19 : decode b_Procedures_moveAll 19 = .ok (.aload_n 0, 1) := by decide +kernel
theorem d_Procedures_moveAll_20 : decode b_Procedures_moveAll 20 = .ok (.getfield 11, 3) := by decide +kernel
theorem d_Procedures_moveAll_23 : decode b_Procedures_moveAll 23 = .ok (.iload_n 1, 1) := by decide +kernel
theorem d_Procedures_moveAll_24 : decode b_Procedures_moveAll 24 = .ok (.iaload, 1) := by decide +kernel
theorem d_Procedures_moveAll_25 : decode b_Procedures_moveAll 25 = .ok (.invokevirtual 45, 3) := by decide +kernel
theorem d_Procedures_moveAll_28 : decode b_Procedures_moveAll 28 = .ok (.iastore, 1) := by decide +kernel
theorem d_Procedures_moveAll_29 : decode b_Procedures_moveAll 29 = .ok (.aload_n 0, 1) := by decide +kernel
theorem d_Procedures_moveAll_30 : decode b_Procedures_moveAll 30 = .ok (.getfield 15, 3) := by decide +kernel
theorem d_Procedures_moveAll_33 : decode b_Procedures_moveAll 33 = .ok (.iload_n 1, 1) := by decide +kernel
theorem d_Procedures_moveAll_34 : decode b_Procedures_moveAll 34 = .ok (.aload_n 0, 1) := by decide +kernel
theorem d_Procedures_moveAll_35 : decode b_Procedures_moveAll 35 = .ok (.getfield 27, 3) := by decide +kernel
theorem d_Procedures_moveAll_38 : decode b_Procedures_moveAll 38 = .ok (.aload_n 0, 1) := by decide +kernel
theorem d_Procedures_moveAll_39 : decode b_Procedures_moveAll 39 = .ok (.getfield 15, 3) := by decide +kernel
theorem d_Procedures_moveAll_42 : decode b_Procedures_moveAll 42 = .ok (.iload_n 1, 1) := by decide +kernel
theorem d_Procedures_moveAll_43 : decode b_Procedures_moveAll 43 = .ok (.iaload, 1) := by decide +kernel
theorem d_Procedures_moveAll_44 : decode b_Procedures_moveAll 44 = .ok (.invokevirtual 45, 3) := by decide +kernel
theorem d_Procedures_moveAll_47 : decode b_Procedures_moveAll 47 = .ok (.iastore, 1) := by decide +kernel
theorem d_Procedures_moveAll_48 : decode b_Procedures_moveAll 48 = .ok (.aload_n 0, 1) := by decide +kernel
theorem d_Procedures_moveAll_49 : decode b_Procedures_moveAll 49 = .ok (.getfield 18, 3) := by decide +kernel
theorem d_Procedures_moveAll_52 : decode b_Procedures_moveAll 52 = .ok (.iload_n 1, 1) := by decide +kernel
theorem d_Procedures_moveAll_53 : decode b_Procedures_moveAll 53 = .ok (.aload_n 0, 1) := by decide +kernel
theorem d_Procedures_moveAll_54 : decode b_Procedures_moveAll 54 = .ok (.getfield 27, 3) := by decide +kernel
theorem d_Procedures_moveAll_57 : decode b_Procedures_moveAll 57 = .ok (.aload_n 0, 1) := by decide +kernel
theorem d_Procedures_moveAll_58 : decode b_Procedures_moveAll 58 = .ok (.getfield 18, 3) := by decide +kernel
theorem d_Procedures_moveAll_61 : decode b_Procedures_moveAll 61 = .ok (.iload_n 1, 1) := by decide +kernel
theorem d_Procedures_moveAll_62 : decode b_Procedures_moveAll 62 = .ok (.iaload, 1) := by decide +kernel
theorem d_Procedures_moveAll_63 : decode b_Procedures_moveAll 63 = .ok (.invokevirtual 45, 3) := by decide +kernel
theorem d_Procedures_moveAll_66 : decode b_Procedures_moveAll 66 = .ok (.iastore, 1) := by decide +kernel
theorem d_Procedures_moveAll_67 : decode b_Procedures_moveAll 67 = .ok (.iinc 1 1, 3) := by decide +kernel
theorem d_Procedures_moveAll_70 : decode b_Procedures_moveAll 70 = .ok (.goto (-68), 3) := by decide +kernel
theorem d_Procedures_moveAll_73 : decode b_Procedures_moveAll 73 = .ok (.return_, 1) := by decide +kernel
theorem d_Heap_moveMembers_0 : decode b_Heap_moveMembers 0 = .ok (.iload_n 1, 1) := by decide +kernel
theorem d_Heap_moveMembers_1 : decode b_Heap_moveMembers 1 = .ok (.iconst 1, 1) := by decide +kernel
theorem d_Heap_moveMembers_2 : decode b_Heap_moveMembers 2 = .ok (.iadd, 1) := by decide +kernel
theorem d_Heap_moveMembers_3 : decode b_Heap_moveMembers 3 = .ok (.aload_n 0, 1) := by decide +kernel
theorem d_Heap_moveMembers_4 : decode b_Heap_moveMembers 4 = .ok (.getfield 15, 3) := by decide +kernel
theorem d_Heap_moveMembers_7 : decode b_Heap_moveMembers 7 = .ok (.iload_n 1, 1) := by decide +kernel
theorem d_Heap_moveMembers_8 : decode b_Heap_moveMembers 8 = .ok (.iaload, 1) := by decide +kernel
theorem d_Heap_moveMembers_9 : decode b_Heap_moveMembers 9 = .ok (.sipush 8191, 3) := by decide +kernel
theorem d_Heap_moveMembers_12 : decode b_Heap_moveMembers 12 = .ok (.iand, 1) := by decide +kernel
theorem d_Heap_moveMembers_13 : decode b_Heap_moveMembers 13 = .ok (.iadd, 1) := by decide +kernel
theorem d_Heap_moveMembers_14 : decode b_Heap_moveMembers 14 = .ok (.istore_n 2, 1) := by decide +kernel
theorem d_Heap_moveMembers_15 : decode b_Heap_moveMembers 15 = .ok (.iload_n 1, 1) := by decide +kernel
theorem d_Heap_moveMembers_16 : decode b_Heap_moveMembers 16 = .ok (.iconst 1, 1) := by decide +kernel
theorem d_Heap_moveMembers_17 : decode b_Heap_moveMembers 17 = .ok (.iadd, 1) := by decide +kernel
theorem d_Heap_moveMembers_18 : decode b_Heap_moveMembers 18 = .ok (.istore_n 3, 1) := by decide +kernel
theorem d_Heap_moveMembers_19 : decode b_Heap_moveMembers 19 = .ok (.iload_n 3, 1) := by decide +kernel
theorem d_Heap_moveMembers_20 : decode b_Heap_moveMembers 20 = .ok (.iload_n 2, 1) := by decide +kernel
theorem d_Heap_moveMembers_21 : decode b_Heap_moveMembers 21 = .ok (.if_icmp .ge 38, 3) := by decide +kernel
theorem d_Heap_moveMembers_24 : decode b_Heap_moveMembers 24 = .ok (.iload_n 3, 1) := by decide +kernel
theorem d_Heap_moveMembers_25 : decode b_Heap_moveMembers 25 = .ok (.aload_n 0, 1) := by decide +kernel
theorem d_Heap_moveMembers_26 : decode b_Heap_moveMembers 26 = .ok (.getfield 15, 3) := by decide +kernel
theorem d_Heap_moveMembers_29 : decode b_Heap_moveMembers 29 = .ok (.arraylength, 1) := by decide +kernel
theorem d_Heap_moveMembers_30 : decode b_Heap_moveMembers 30 = .ok (.if_icmp .ge 29, 3) := by decide +kernel
theorem d_Heap_moveMembers_33 : decode b_Heap_moveMembers 33 = .ok (.aload_n 0, 1) := by decide +kernel
theorem d_Heap_moveMembers_34 : decode b_Heap_moveMembers 34 = .ok (.aload_n 0, 1) := by decide +kernel
theorem d_Heap_moveMembers_35 : decode b_Heap_moveMembers 35 = .ok (.getfield 15, 3) := by decide +kernel
theorem d_Heap_moveMembers_38 : decode b_Heap_moveMembers 38 = .ok (.iload_n 3, 1) := by decide +kernel
theorem d_Heap_moveMembers_39 : decode b_Heap_moveMembers 39 = .ok (.iaload, 1) := by decide +kernel
theorem d_Heap_moveMembers_40 : decode b_Heap_moveMembers 40 = .ok (.invokevirtual 174, 3) := by decide +kernel
theorem d_Heap_moveMembers_43 : decode b_Heap_moveMembers 43 = .ok (.istore 4, 2) := by decide +kernel
theorem d_Heap_moveMembers_45 : decode b_Heap_moveMembers 45 = .ok (.aload_n 0, 1) := by decide +kernel
theorem d_Heap_moveMembers_46 : decode b_Heap_moveMembers 46 = .ok (.getfield 15, 3) := by decide +kernel
theorem d_Heap_moveMembers_49 : decode b_Heap_moveMembers 49 = .ok (.iload_n 3, 1) := by decide +kernel
theorem d_Heap_moveMembers_50 : decode b_Heap_moveMembers 50 = .ok (.iload 4, 2) := by decide +kernel
theorem d_Heap_moveMembers_52 : decode b_Heap_moveMembers 52 = .ok (.iastore, 1) := by decide +kernel
theorem d_Heap_moveMembers_53 : decode b_Heap_moveMembers 53 = .ok (.iinc 3 1, 3) := by decide +kernel
theorem d_Heap_moveMembers_56 : decode b_Heap_moveMembers 56 = .ok (.goto (-37), 3) := by decide +kernel
theorem d_Heap_moveMembers_59 : decode b_Heap_moveMembers 59 = .ok (.iload_n 2, 1) := by decide +kernel
theorem d_Heap_moveMembers_60 : decode b_Heap_moveMembers 60 = .ok (.ireturn, 1) := by decide +kernel
theorem d_Heap_endCollecting_0 : decode b_Heap_endCollecting 0 = .ok (.aload_n 0, 1) := by decide +kernel
theorem d_Heap_endCollecting_1 : decode b_Heap_endCollecting 1 = .ok (.getfield 54, 3) := by decide +kernel
theorem d_Heap_endCollecting_4 : decode b_Heap_endCollecting 4 = .ok (.istore_n 1, 1) := by decide +kernel
theorem d_Heap_endCollecting_5 : decode b_Heap_endCollecting 5 = .ok (.iconst 0, 1) := by decide +kernel
theorem d_Heap_endCollecting_6 : decode b_Heap_endCollecting 6 = .ok (.istore_n 2, 1) := by decide +kernel
theorem d_Heap_endCollecting_7 : decode b_Heap_endCollecting 7 = .ok (.iload_n 2, 1) := by decide +kernel
theorem d_Heap_endCollecting_8 : decode b_Heap_endCollecting 8 = .ok (.ldc 149, 2) := by decide +kernel
theorem d_Heap_endCollecting_10 : decode b_Heap_endCollecting 10 = .ok (.if_icmp .ge 43, 3) := by decide +kernel
theorem d_Heap_endCollecting_13 : decode b_Heap_endCollecting 13 = .ok (.iload_n 1, 1) := by decide +kernel
theorem d_Heap_endCollecting_14 : decode b_Heap_endCollecting 14 = .ok (.aload_n 0, 1) := by decide +kernel
theorem d_Heap_endCollecting_15 : decode b_Heap_endCollecting 15 = .ok (.getfield 153, 3) := by decide +kernel
theorem d_Heap_endCollecting_18 : decode b_Heap_endCollecting 18 = .ok (.if_icmp .ge 35, 3) := by decide +kernel
theorem d_Heap_endCollecting_21 : decode b_Heap_endCollecting 21 = .ok (.aload_n 0, 1) := by decide +kernel
theorem d_Heap_endCollecting_22 : decode b_Heap_endCollecting 22 = .ok (.getfield 15, 3) := by decide +kernel
theorem d_Heap_endCollecting_25 : decode b_Heap_endCollecting 25 = .ok (.iload_n 1, 1) := by decide +kernel
theorem d_Heap_endCollecting_26 : decode b_Heap_endCollecting 26 = .ok (.iaload, 1) := by decide +kernel
theorem d_Heap_endCollecting_27 : decode b_Heap_endCollecting 27 = .ok (.ldc 118, 2) := by decide +kernel
theorem d_Heap_endCollecting_29 : decode b_Heap_endCollecting 29 = .ok (.iand, 1) := by decide +kernel
theorem d_Heap_endCollecting_30 : decode b_Heap_endCollecting 30 = .ok (.ifCond .eq 11, 3) := by decide +kernel
theorem d_Heap_endCollecting_33 : decode b_Heap_endCollecting 33 = .ok (.aload_n 0, 1) := by decide +kernel
theorem d_Heap_endCollecting_34 : decode b_Heap_endCollecting 34 = .ok (.iload_n 1, 1) := by decide +kernel
theorem d_Heap_endCollecting_35 : decode b_Heap_endCollecting 35 = .ok (.invokevirtual 168, 3) := by decide +kernel
theorem d_Heap_endCollecting_38 : decode b_Heap_endCollecting 38 = .ok (.goto 8, 3) := by decide +kernel
theorem d_Heap_endCollecting_41 : decode b_Heap_endCollecting 41 = .ok (.aload_n 0, 1) := by decide +kernel
theorem d_Heap_endCollecting_42 : decode b_Heap_endCollecting 42 = .ok (.iload_n 1, 1) := by decide +kernel
theorem d_Heap_endCollecting_43 : decode b_Heap_endCollecting 43 = .ok (.invokevirtual 171, 3) := by decide +kernel
theorem d_Heap_endCollecting_46 : decode b_Heap_endCollecting 46 = .ok (.istore_n 1, 1) := by decide +kernel
theorem d_Heap_endCollecting_47 : decode b_Heap_endCollecting 47 = .ok (.iinc 2 1, 3) := by decide +kernel
theorem d_Heap_endCollecting_50 : decode b_Heap_endCollecting 50 = .ok (.goto (-43), 3) := by decide +kernel
theorem d_Heap_endCollecting_53 : decode b_Heap_endCollecting 53 = .ok (.aload_n 0, 1) := by decide +kernel
theorem d_Heap_endCollecting_54 : decode b_Heap_endCollecting 54 = .ok (.getfield 11, 3) := by decide +kernel
theorem d_Heap_endCollecting_57 : decode b_Heap_endCollecting 57 = .ok (.astore_n 2, 1) := by decide +kernel
theorem d_Heap_endCollecting_58 : decode b_Heap_endCollecting 58 = .ok (.aload_n 0, 1) := by decide +kernel
theorem d_Heap_endCollecting_59 : decode b_Heap_endCollecting 59 = .ok (.aload_n 0, 1) := by decide +kernel
theorem d_Heap_endCollecting_60 : decode b_Heap_endCollecting 60 = .ok (.getfield 15, 3) := by decide +kernel
theorem d_Heap_endCollecting_63 : decode b_Heap_endCollecting 63 = .ok (.putfield 11, 3) := by decide +kernel
theorem d_Heap_endCollecting_66 : decode b_Heap_endCollecting 66 = .ok (.aload_n 0, 1) := by decide +kernel
theorem d_Heap_endCollecting_67 : decode b_Heap_endCollecting 67 = .ok (.aload_n 2, 1) := by decide +kernel
theorem d_Heap_endCollecting_68 : decode b_Heap_endCollecting 68 = .ok (.putfield 15, 3) := by decide +kernel
theorem d_Heap_endCollecting_71 : decode b_Heap_endCollecting 71 = .ok (.aload_n 0, 1) := by decide +kernel
theorem d_Heap_endCollecting_72 : decode b_Heap_endCollecting 72 = .ok (.aload_n 0, 1) := by decide +kernel
theorem d_Heap_endCollecting_73 : decode b_Heap_endCollecting 73 = .ok (.getfield 153, 3) := by decide +kernel
theorem d_Heap_endCollecting_76 : decode b_Heap_endCollecting 76 = .ok (.putfield 18, 3) := by decide +kernel
theorem d_Heap_endCollecting_79 : decode b_Heap_endCollecting 79 = .ok (.return_, 1) := by decide +kernel
theorem lk_Heap_149 : Cond.constant "TurtleWorld$Heap" 149 1000000 ∈ tw_T := tw_i4 206 (by decide +kernel) (by decide +kernel)
theorem lk_Heap_168 : Cond.methodLink "TurtleWorld$Heap" 168 ⟨"TurtleWorld$Heap", "moveMembers", "(I)I"⟩ ∈ tw_T := tw_i4 207 (by decide +kernel) (by decide +kernel)
theorem in_Heap_moveMembers : Cond.instanceMethod ⟨"TurtleWorld$Heap", "moveMembers", "(I)I"⟩ ∈ tw_T := tw_i4 209 (by decide +kernel) (by decide +kernel)
theorem sel_Heap_moveMembers : Cond.selects "TurtleWorld$Heap" ⟨"TurtleWorld$Heap", "moveMembers", "(I)I"⟩ ⟨"TurtleWorld$Heap", "moveMembers", "(I)I"⟩ ∈ tw_T := tw_inS 29 (by decide +kernel) (by decide +kernel)
theorem d_World_collect_0 : decode b_World_collect 0 = .ok (.aload_n 0, 1) := by decide +kernel
theorem d_World_collect_1 : decode b_World_collect 1 = .ok (.getfield 17, 3) := by decide +kernel
theorem d_World_collect_4 : decode b_World_collect 4 = .ok (.invokevirtual 251, 3) := by decide +kernel
theorem d_World_collect_7 : decode b_World_collect 7 = .ok (.aload_n 0, 1) := by decide +kernel
theorem d_World_collect_8 : decode b_World_collect 8 = .ok (.aload_n 0, 1) := by decide +kernel
theorem d_World_collect_9 : decode b_World_collect 9 = .ok (.getfield 17, 3) := by decide +kernel
theorem d_World_collect_12 : decode b_World_collect 12 = .ok (.aload_n 0, 1) := by decide +kernel
theorem d_World_collect_13 : decode b_World_collect 13 = .ok (.getfield 56, 3) := by decide +kernel
theorem d_World_collect_16 : decode b_World_collect 16 = .ok (.getfield 254, 3) := by decide +kernel
theorem d_World_collect_19 : decode b_World_collect 19 = .ok (.invokevirtual 255, 3) := by decide +kernel
theorem d_World_collect_22 : decode b_World_collect 22 = .ok (.putfield 125, 3) := by decide +kernel
theorem d_World_collect_25 : decode b_World_collect 25 = .ok (.aload_n 0, 1) := by decide +kernel
theorem d_World_collect_26 : decode b_World_collect 26 = .ok (.getfield 26, 3) := by decide +kernel
theorem d_World_collect_29 : decode b_World_collect 29 = .ok (.invokevirtual 258, 3) := by decide +kernel
theorem d_World_collect_32 : decode b_World_collect 32 = .ok (.aload_n 0, 1) := by decide +kernel
theorem d_World_collect_33 : decode b_World_collect 33 = .ok (.getfield 33, 3) := by decide +kernel
theorem d_World_collect_36 : decode b_World_collect 36 = .ok (.invokevirtual 261, 3) := by decide +kernel
theorem d_World_collect_39 : decode b_World_collect 39 = .ok (.aload_n 0, 1) := by decide +kernel
theorem d_World_collect_40 : decode b_World_collect 40 = .ok (.getfield 17, 3) := by decide +kernel
theorem d_World_collect_43 : decode b_World_collect 43 = .ok (.invokevirtual 262, 3) := by decide +kernel
theorem d_World_collect_46 : decode b_World_collect 46 = .ok (.return_, 1) := by decide +kernel
theorem lk_World_251 : Cond.methodLink "TurtleWorld" 251 ⟨"TurtleWorld$Heap", "beginCollecting", "()V"⟩ ∈ tw_T := tw_i4 166 (by decide +kernel) (by decide +kernel)
theorem in_Heap_beginCollecting : Cond.instanceMethod ⟨"TurtleWorld$Heap", "beginCollecting", "()V"⟩ ∈ tw_T := tw_i4 167 (by decide +kernel) (by decide +kernel)
theorem sel_Heap_beginCollecting : Cond.selects "TurtleWorld$Heap" ⟨"TurtleWorld$Heap", "beginCollecting", "()V"⟩ ⟨"TurtleWorld$Heap", "beginCollecting", "()V"⟩ ∈ tw_T := tw_i4 168 (by decide +kernel) (by decide +kernel)
theorem lk_World_254 : Cond.fieldLink "TurtleWorld" 254 "TurtleWorld$Reader" "lineList" "I" ∈ tw_T := tw_i2 172 (by decide +kernel) (by decide +kernel)
theorem lk_World_255 : Cond.methodLink "TurtleWorld" 255 ⟨"TurtleWorld$Heap", "moved", "(I)I"⟩ ∈ tw_T := tw_i4 170 (by decide +kernel) (by decide +kernel)
theorem in_Heap_moved : Cond.instanceMethod ⟨"TurtleWorld$Heap", "moved", "(I)I"⟩ ∈ tw_T := tw_i4 171 (by decide +kernel) (by decide +kernel)
theorem sel_Heap_moved : Cond.selects "TurtleWorld$Heap" ⟨"TurtleWorld$Heap", "moved", "(I)I"⟩ ⟨"TurtleWorld$Heap", "moved", "(I)I"⟩ ∈ tw_T := tw_i4 172 (by decide +kernel) (by decide +kernel)
theorem lk_World_125 : Cond.fieldLink "TurtleWorld" 125 "TurtleWorld" "lineList" "I" ∈ tw_T := tw_i3 203 (by decide +kernel) (by decide +kernel)
theorem lk_World_258 : Cond.methodLink "TurtleWorld" 258 ⟨"TurtleWorld$Names", "moveAll", "()V"⟩ ∈ tw_T := tw_i4 192 (by decide +kernel) (by decide +kernel)
theorem in_Names_moveAll : Cond.instanceMethod ⟨"TurtleWorld$Names", "moveAll", "()V"⟩ ∈ tw_T := tw_i4 193 (by decide +kernel) (by decide +kernel)
theorem sel_Names_moveAll : Cond.selects "TurtleWorld$Names" ⟨"TurtleWorld$Names", "moveAll", "()V"⟩ ⟨"TurtleWorld$Names", "moveAll", "()V"⟩ ∈ tw_T := tw_i4 194 (by decide +kernel) (by decide +kernel)
theorem lk_World_261 : Cond.methodLink "TurtleWorld" 261 ⟨"TurtleWorld$Procedures", "moveAll", "()V"⟩ ∈ tw_T := tw_i4 197 (by decide +kernel) (by decide +kernel)
theorem in_Procedures_moveAll : Cond.instanceMethod ⟨"TurtleWorld$Procedures", "moveAll", "()V"⟩ ∈ tw_T := tw_i4 198 (by decide +kernel) (by decide +kernel)
theorem sel_Procedures_moveAll : Cond.selects "TurtleWorld$Procedures" ⟨"TurtleWorld$Procedures", "moveAll", "()V"⟩ ⟨"TurtleWorld$Procedures", "moveAll", "()V"⟩ ∈ tw_T := tw_i4 199 (by decide +kernel) (by decide +kernel)
theorem lk_World_262 : Cond.methodLink "TurtleWorld" 262 ⟨"TurtleWorld$Heap", "endCollecting", "()V"⟩ ∈ tw_T := tw_i4 202 (by decide +kernel) (by decide +kernel)
theorem in_Heap_endCollecting : Cond.instanceMethod ⟨"TurtleWorld$Heap", "endCollecting", "()V"⟩ ∈ tw_T := tw_i4 203 (by decide +kernel) (by decide +kernel)
theorem sel_Heap_endCollecting : Cond.selects "TurtleWorld$Heap" ⟨"TurtleWorld$Heap", "endCollecting", "()V"⟩ ⟨"TurtleWorld$Heap", "endCollecting", "()V"⟩ ∈ tw_T := tw_i4 204 (by decide +kernel) (by decide +kernel)
