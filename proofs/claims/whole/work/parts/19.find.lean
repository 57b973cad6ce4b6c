theorem d_Names_findLocal_0 : decode b_Names_findLocal 0 = .ok (.aload_n 0, 1) := by decide +kernel
theorem d_Names_findLocal_1 : decode b_Names_findLocal 1 = .ok (.getfield 31, 3) := by decide +kernel
theorem d_Names_findLocal_4 : decode b_Names_findLocal 4 = .ok (.iconst 1, 1) := by decide +kernel
theorem d_Names_findLocal_5 : decode b_Names_findLocal 5 = .ok (.isub, 1) := by decide +kernel
theorem d_Names_findLocal_6 : decode b_Names_findLocal 6 = .ok (.istore_n 3, 1) := by decide +kernel
theorem d_Names_findLocal_7 : decode b_Names_findLocal 7 = .ok (.iload_n 3, 1) := by decide +kernel
theorem d_Names_findLocal_8 : decode b_Names_findLocal 8 = .ok (.iload_n 2, 1) := by decide +kernel
theorem d_Names_findLocal_9 : decode b_Names_findLocal 9 = .ok (.if_icmp .lt 32, 3) := by decide +kernel
theorem d_Names_findLocal_12 : decode b_Names_findLocal 12 = .ok (.iload_n 3, 1) := by decide +kernel
theorem d_Names_findLocal_13 : decode b_Names_findLocal 13 = .ok (.ifCond .lt 28, 3) := by decide +kernel
theorem d_Names_findLocal_16 : decode b_Names_findLocal 16 = .ok (.aload_n 0, 1) := by decide +kernel
theorem d_Names_findLocal_17 : decode b_Names_findLocal 17 = .ok (.getfield 27, 3) := by decide +kernel
theorem d_Names_findLocal_20 : decode b_Names_findLocal 20 = .ok (.aload_n 0, 1) := by decide +kernel
theorem d_Names_findLocal_21 : decode b_Names_findLocal 21 = .ok (.getfield 18, 3) := by decide +kernel
theorem d_Names_findLocal_24 : decode b_Names_findLocal 24 = .ok (.iload_n 3, 1) := by decide +kernel
theorem d_Names_findLocal_25 : decode b_Names_findLocal 25 = .ok (.iaload, 1) := by decide +kernel
theorem d_Names_findLocal_26 : decode b_Names_findLocal 26 = .ok (.iload_n 1, 1) := by decide +kernel
theorem d_Names_findLocal_27 : decode b_Names_findLocal 27 = .ok (.invokevirtual 35, 3) := by decide +kernel
theorem d_Names_findLocal_30 : decode b_Names_findLocal 30 = .ok (.ifCond .eq 5, 3) := by decide +kernel
theorem d_Names_findLocal_33 : decode b_Names_findLocal 33 = .ok (.iload_n 3, 1) := by decide +kernel
theorem d_Names_findLocal_34 : decode b_Names_findLocal 34 = .ok (.ireturn, 1) := by decide +kernel
theorem d_Names_findLocal_35 : decode b_Names_findLocal 35 = .ok (.iinc 3 (-1), 3) := by decide +kernel
theorem d_Names_findLocal_38 : decode b_Names_findLocal 38 = .ok (.goto (-31), 3) := by decide +kernel
theorem d_Names_findLocal_41 : decode b_Names_findLocal 41 = .ok (.iconst (-1), 1) := by decide +kernel
theorem d_Names_findLocal_42 : decode b_Names_findLocal 42 = .ok (.ireturn, 1) := by decide +kernel
theorem lk_Names_27 : Cond.fieldLink "TurtleWorld$Names" 27 "TurtleWorld$Names" "heap" "LTurtleWorld$Heap;" ∈ tw_T := tw_i2 8 (by decide +kernel) (by decide +kernel)
theorem lk_Names_35 : Cond.methodLink "TurtleWorld$Names" 35 ⟨"TurtleWorld$Heap", "sameWord", "(II)Z"⟩ ∈ tw_T := tw_i5 68 (by decide +kernel) (by decide +kernel)
theorem in_Heap_sameWord : Cond.instanceMethod ⟨"TurtleWorld$Heap", "sameWord", "(II)Z"⟩ ∈ tw_T := tw_i4 125 (by decide +kernel) (by decide +kernel)
theorem sel_Heap_sameWord : Cond.selects "TurtleWorld$Heap" ⟨"TurtleWorld$Heap", "sameWord", "(II)Z"⟩ ⟨"TurtleWorld$Heap", "sameWord", "(II)Z"⟩ ∈ tw_T := tw_i4 126 (by decide +kernel) (by decide +kernel)
theorem d_Names_findGlobal_0 : decode b_Names_findGlobal 0 = .ok (.iconst 0, 1) := by decide +kernel
theorem d_Names_findGlobal_1 : decode b_Names_findGlobal 1 = .ok (.istore_n 2, 1) := by decide +kernel
theorem d_Names_findGlobal_2 : decode b_Names_findGlobal 2 = .ok (.iload_n 2, 1) := by decide +kernel
theorem d_Names_findGlobal_3 : decode b_Names_findGlobal 3 = .ok (.aload_n 0, 1) := by decide +kernel
theorem d_Names_findGlobal_4 : decode b_Names_findGlobal 4 = .ok (.getfield 41, 3) := by decide +kernel
theorem d_Names_findGlobal_7 : decode b_Names_findGlobal 7 = .ok (.if_icmp .ge 28, 3) := by decide +kernel
theorem d_Names_findGlobal_10 : decode b_Names_findGlobal 10 = .ok (.aload_n 0, 1) := by decide +kernel
theorem d_Names_findGlobal_11 : decode b_Names_findGlobal 11 = .ok (.getfield 27, 3) := by decide +kernel
theorem d_Names_findGlobal_14 : decode b_Names_findGlobal 14 = .ok (.aload_n 0, 1) := by decide +kernel
theorem d_Names_findGlobal_15 : decode b_Names_findGlobal 15 = .ok (.getfield 11, 3) := by decide +kernel
theorem d_Names_findGlobal_18 : decode b_Names_findGlobal 18 = .ok (.iload_n 2, 1) := by decide +kernel
theorem d_Names_findGlobal_19 : decode b_Names_findGlobal 19 = .ok (.iaload, 1) := by decide +kernel
theorem d_Names_findGlobal_20 : decode b_Names_findGlobal 20 = .ok (.iload_n 1, 1) := by decide +kernel
theorem d_Names_findGlobal_21 : decode b_Names_findGlobal 21 = .ok (.invokevirtual 35, 3) := by decide +kernel
theorem d_Names_findGlobal_24 : decode b_Names_findGlobal 24 = .ok (.ifCond .eq 5, 3) := by decide +kernel
theorem d_Names_findGlobal_27 : decode b_Names_findGlobal 27 = .ok (.iload_n 2, 1) := by decide +kernel
theorem d_Names_findGlobal_28 : decode b_Names_findGlobal 28 = .ok (.ireturn, 1) := by decide +kernel
theorem d_Names_findGlobal_29 : decode b_Names_findGlobal 29 = .ok (.iinc 2 1, 3) := by decide +kernel
theorem d_Names_findGlobal_32 : decode b_Names_findGlobal 32 = .ok (.goto (-30), 3) := by decide +kernel
theorem d_Names_findGlobal_35 : decode b_Names_findGlobal 35 = .ok (.iconst (-1), 1) := by decide +kernel
theorem d_Names_findGlobal_36 : decode b_Names_findGlobal 36 = .ok (.ireturn, 1) := by decide +kernel
theorem d_Procedures_find_0 : decode b_Procedures_find 0 = .ok (.iconst 0, 1) := by decide +kernel
theorem d_Procedures_find_1 : decode b_Procedures_find 1 = .ok (.istore_n 2, 1) := by decide +kernel
theorem d_Procedures_find_2 : decode b_Procedures_find 2 = .ok (.iload_n 2, 1) := by decide +kernel
theorem d_Procedures_find_3 : decode b_Procedures_find 3 = .ok (.aload_n 0, 1) := by decide +kernel
theorem d_Procedures_find_4 : decode b_Procedures_find 4 = .ok (.getfield 31, 3) := by decide +kernel
theorem d_Procedures_find_7 : decode b_Procedures_find 7 = .ok (.if_icmp .ge 28, 3) := by decide +kernel
theorem d_Procedures_find_10 : decode b_Procedures_find 10 = .ok (.aload_n 0, 1) := by decide +kernel
theorem d_Procedures_find_11 : decode b_Procedures_find 11 = .ok (.getfield 27, 3) := by decide +kernel
theorem d_Procedures_find_14 : decode b_Procedures_find 14 = .ok (.aload_n 0, 1) := by decide +kernel
theorem d_Procedures_find_15 : decode b_Procedures_find 15 = .ok (.getfield 11, 3) := by decide +kernel
theorem d_Procedures_find_18 : decode b_Procedures_find 18 = .ok (.iload_n 2, 1) := by decide +kernel
theorem d_Procedures_find_19 : decode b_Procedures_find 19 = .ok (.iaload, 1) := by decide +kernel
theorem d_Procedures_find_20 : decode b_Procedures_find 20 = .ok (.iload_n 1, 1) := by decide +kernel
theorem d_Procedures_find_21 : decode b_Procedures_find 21 = .ok (.invokevirtual 35, 3) := by decide +kernel
theorem d_Procedures_find_24 : decode b_Procedures_find 24 = .ok (.ifCond .eq 5, 3) := by decide +kernel
theorem d_Procedures_find_27 : decode b_Procedures_find 27 = .ok (.iload_n 2, 1) := by decide +kernel
theorem d_Procedures_find_28 : decode b_Procedures_find 28 = .ok (.ireturn, 1) := by decide +kernel
theorem d_Procedures_find_29 : decode b_Procedures_find 29 = .ok (.iinc 2 1, 3) := by decide +kernel
theorem d_Procedures_find_32 : decode b_Procedures_find 32 = .ok (.goto (-30), 3) := by decide +kernel
theorem d_Procedures_find_35 : decode b_Procedures_find 35 = .ok (.iconst (-1), 1) := by decide +kernel
theorem d_Procedures_find_36 : decode b_Procedures_find 36 = .ok (.ireturn, 1) := by decide +kernel
theorem lk_Procedures_27 : Cond.fieldLink "TurtleWorld$Procedures" 27 "TurtleWorld$Procedures" "heap" "LTurtleWorld$Heap;" ∈ tw_T := tw_i2 46 (by decide +kernel) (by decide +kernel)
theorem lk_Procedures_11 : Cond.fieldLink "TurtleWorld$Procedures" 11 "TurtleWorld$Procedures" "names" "[I" ∈ tw_T := tw_i2 47 (by decide +kernel) (by decide +kernel)
theorem lk_Procedures_35 : Cond.methodLink "TurtleWorld$Procedures" 35 ⟨"TurtleWorld$Heap", "sameWord", "(II)Z"⟩ ∈ tw_T := tw_i4 132 (by decide +kernel) (by decide +kernel)
theorem d_Line_newestCatch_0 : decode b_Line_newestCatch 0 = .ok (.aload_n 0, 1) := by decide +kernel
theorem d_Line_newestCatch_1 : decode b_Line_newestCatch 1 = .ok (.getfield 62, 3) := by decide +kernel
theorem d_Line_newestCatch_4 : decode b_Line_newestCatch 4 = .ok (.iconst 1, 1) := by decide +kernel
theorem d_Line_newestCatch_5 : decode b_Line_newestCatch 5 = .ok (.isub, 1) := by decide +kernel
theorem d_Line_newestCatch_6 : decode b_Line_newestCatch 6 = .ok (.istore_n 2, 1) := by decide +kernel
theorem d_Line_newestCatch_7 : decode b_Line_newestCatch 7 = .ok (.iload_n 2, 1) := by decide +kernel
theorem d_Line_newestCatch_8 : decode b_Line_newestCatch 8 = .ok (.ifCond .lt 39, 3) := by decide +kernel
theorem d_Line_newestCatch_11 : decode b_Line_newestCatch 11 = .ok (.aload_n 0, 1) := by decide +kernel
theorem d_Line_newestCatch_12 : decode b_Line_newestCatch 12 = .ok (.getfield 9, 3) := by decide +kernel
theorem d_Line_newestCatch_15 : decode b_Line_newestCatch 15 = .ok (.iload_n 2, 1) := by decide +kernel
theorem d_Line_newestCatch_16 : decode b_Line_newestCatch 16 = .ok (.iaload, 1) := by decide +kernel
theorem d_Line_newestCatch_17 : decode b_Line_newestCatch 17 = .ok (.bipush 8, 2) := by decide +kernel
theorem d_Line_newestCatch_19 : decode b_Line_newestCatch 19 = .ok (.if_icmp .ne 22, 3) := by decide +kernel
theorem d_Line_newestCatch_22 : decode b_Line_newestCatch 22 = .ok (.aload_n 0, 1) := by decide +kernel
theorem d_Line_newestCatch_23 : decode b_Line_newestCatch 23 = .ok (.getfield 42, 3) := by decide +kernel
theorem d_Line_newestCatch_26 : decode b_Line_newestCatch 26 = .ok (.aload_n 0, 1) := by decide +kernel
theorem d_Line_newestCatch_27 : decode b_Line_newestCatch 27 = .ok (.getfield 30, 3) := by decide +kernel
theorem d_Line_newestCatch_30 : decode b_Line_newestCatch 30 = .ok (.iload_n 2, 1) := by decide +kernel
theorem d_Line_newestCatch_31 : decode b_Line_newestCatch 31 = .ok (.iaload, 1) := by decide +kernel
theorem d_Line_newestCatch_32 : decode b_Line_newestCatch 32 = .ok (.iload_n 1, 1) := by decide +kernel
theorem d_Line_newestCatch_33 : decode b_Line_newestCatch 33 = .ok (.invokevirtual 77, 3) := by decide +kernel
theorem d_Line_newestCatch_36 : decode b_Line_newestCatch 36 = .ok (.ifCond .eq 5, 3) := by decide +kernel
theorem d_Line_newestCatch_39 : decode b_Line_newestCatch 39 = .ok (.iload_n 2, 1) := by decide +kernel
theorem d_Line_newestCatch_40 : decode b_Line_newestCatch 40 = .ok (.ireturn, 1) := by decide +kernel
theorem d_Line_newestCatch_41 : decode b_Line_newestCatch 41 = .ok (.iinc 2 (-1), 3) := by decide +kernel
theorem d_Line_newestCatch_44 : decode b_Line_newestCatch 44 = .ok (.goto (-37), 3) := by decide +kernel
theorem d_Line_newestCatch_47 : decode b_Line_newestCatch 47 = .ok (.iconst (-1), 1) := by decide +kernel
theorem d_Line_newestCatch_48 : decode b_Line_newestCatch 48 = .ok (.ireturn, 1) := by decide +kernel
theorem lk_Line_42 : Cond.fieldLink "TurtleWorld$Line" 42 "TurtleWorld$Line" "heap" "LTurtleWorld$Heap;" ∈ tw_T := tw_i2 233 (by decide +kernel) (by decide +kernel)
theorem lk_Line_30 : Cond.fieldLink "TurtleWorld$Line" 30 "TurtleWorld$Line" "mark" "[I" ∈ tw_T := tw_i3 28 (by decide +kernel) (by decide +kernel)
theorem lk_Line_77 : Cond.methodLink "TurtleWorld$Line" 77 ⟨"TurtleWorld$Heap", "sameWord", "(II)Z"⟩ ∈ tw_T := tw_i5 184 (by decide +kernel) (by decide +kernel)
theorem d_Line_note_0 : decode b_Line_note 0 = .ok (.aload_n 0, 1) := by decide +kernel
theorem d_Line_note_1 : decode b_Line_note 1 = .ok (.getfield 62, 3) := by decide +kernel
theorem d_Line_note_4 : decode b_Line_note 4 = .ok (.ifCond .le 27, 3) := by decide +kernel
theorem d_Line_note_7 : decode b_Line_note 7 = .ok (.aload_n 0, 1) := by decide +kernel
theorem d_Line_note_8 : decode b_Line_note 8 = .ok (.getfield 30, 3) := by decide +kernel
theorem d_Line_note_11 : decode b_Line_note 11 = .ok (.aload_n 0, 1) := by decide +kernel
theorem d_Line_note_12 : decode b_Line_note 12 = .ok (.getfield 62, 3) := by decide +kernel
theorem d_Line_note_15 : decode b_Line_note 15 = .ok (.iconst 1, 1) := by decide +kernel
theorem d_Line_note_16 : decode b_Line_note 16 = .ok (.isub, 1) := by decide +kernel
theorem d_Line_note_17 : decode b_Line_note 17 = .ok (.iload_n 1, 1) := by decide +kernel
theorem d_Line_note_18 : decode b_Line_note 18 = .ok (.iastore, 1) := by decide +kernel
theorem d_Line_note_19 : decode b_Line_note 19 = .ok (.aload_n 0, 1) := by decide +kernel
theorem d_Line_note_20 : decode b_Line_note 20 = .ok (.getfield 27, 3) := by decide +kernel
theorem d_Line_note_23 : decode b_Line_note 23 = .ok (.aload_n 0, 1) := by decide +kernel
theorem d_Line_note_24 : decode b_Line_note 24 = .ok (.getfield 62, 3) := by decide +kernel
theorem d_Line_note_27 : decode b_Line_note 27 = .ok (.iconst 1, 1) := by decide +kernel
theorem d_Line_note_28 : decode b_Line_note 28 = .ok (.isub, 1) := by decide +kernel
theorem d_Line_note_29 : decode b_Line_note 29 = .ok (.iload_n 2, 1) := by decide +kernel
theorem d_Line_note_30 : decode b_Line_note 30 = .ok (.iastore, 1) := by decide +kernel
theorem d_Line_note_31 : decode b_Line_note 31 = .ok (.return_, 1) := by decide +kernel
theorem lk_Line_27 : Cond.fieldLink "TurtleWorld$Line" 27 "TurtleWorld$Line" "other" "[I" ∈ tw_T := tw_i3 26 (by decide +kernel) (by decide +kernel)
theorem d_Line_open_0 : decode b_Line_open 0 = .ok (.aload_n 0, 1) := by decide +kernel
theorem d_Line_open_1 : decode b_Line_open 1 = .ok (.getfield 62, 3) := by decide +kernel
theorem d_Line_open_4 : decode b_Line_open 4 = .ok (.sipush 150, 3) := by decide +kernel
theorem d_Line_open_7 : decode b_Line_open 7 = .ok (.if_icmp .lt 5, 3) := by decide +kernel
theorem d_Line_open_10 : decode b_Line_open 10 = .ok (.iconst 0, 1) := by decide +kernel
theorem d_Line_open_11 : decode b_Line_open 11 = .ok (.ireturn, 1) := by decide +kernel
theorem d_Line_open_12 : decode b_Line_open 12 = .ok (.aload_n 0, 1) := by decide +kernel
theorem d_Line_open_13 : decode b_Line_open 13 = .ok (.getfield 9, 3) := by decide +kernel
theorem d_Line_open_16 : decode b_Line_open 16 = .ok (.aload_n 0, 1) := by decide +kernel
theorem d_Line_open_17 : decode b_Line_open 17 = .ok (.getfield 62, 3) := by decide +kernel
theorem d_Line_open_20 : decode b_Line_open 20 = .ok (.iload_n 1, 1) := by decide +kernel
theorem d_Line_open_21 : decode b_Line_open 21 = .ok (.iastore, 1) := by decide +kernel
theorem d_Line_open_22 : decode b_Line_open 22 = .ok (.aload_n 0, 1) := by decide +kernel
theorem d_Line_open_23 : decode b_Line_open 23 = .ok (.getfield 15, 3) := by decide +kernel
theorem d_Line_open_26 : decode b_Line_open 26 = .ok (.aload_n 0, 1) := by decide +kernel
theorem d_Line_open_27 : decode b_Line_open 27 = .ok (.getfield 62, 3) := by decide +kernel
theorem d_Line_open_30 : decode b_Line_open 30 = .ok (.iload_n 2, 1) := by decide +kernel
theorem d_Line_open_31 : decode b_Line_open 31 = .ok (.iastore, 1) := by decide +kernel
theorem d_Line_open_32 : decode b_Line_open 32 = .ok (.aload_n 0, 1) := by decide +kernel
theorem d_Line_open_33 : decode b_Line_open 33 = .ok (.getfield 18, 3) := by decide +kernel
theorem d_Line_open_36 : decode b_Line_open 36 = .ok (.aload_n 0, 1) := by decide +kernel
theorem d_Line_open_37 : decode b_Line_open 37 = .ok (.getfield 62, 3) := by decide +kernel
theorem d_Line_open_40 : decode b_Line_open 40 = .ok (.iconst 0, 1) := by decide +kernel
theorem d_Line_open_41 : decode b_Line_open 41 = .ok (.iastore, 1) := by decide +kernel
theorem d_Line_open_42 : decode b_Line_open 42 = .ok (.aload_n 0, 1) := by decide +kernel
theorem d_Line_open_43 : decode b_Line_open 43 = .ok (.getfield 21, 3) := by decide +kernel
theorem d_Line_open_46 : decode b_Line_open 46 = .ok (.aload_n 0, 1) := by decide +kernel
theorem d_Line_open_47 : decode b_Line_open 47 = .ok (.getfield 62, 3) := by decide +kernel
theorem d_Line_open_50 : decode b_Line_open 50 = .ok (.iconst 1, 1) := by decide +kernel
theorem d_Line_open_51 : decode b_Line_open 51 = .ok (.iastore, 1) := by decide +kernel
theorem d_Line_open_52 : decode b_Line_open 52 = .ok (.aload_n 0, 1) := by decide +kernel
theorem d_Line_open_53 : decode b_Line_open 53 = .ok (.getfield 24, 3) := by decide +kernel
theorem d_Line_open_56 : decode b_Line_open 56 = .ok (.aload_n 0, 1) := by decide +kernel
theorem d_Line_open_57 : decode b_Line_open 57 = .ok (.getfield 62, 3) := by decide +kernel
theorem d_Line_open_60 : decode b_Line_open 60 = .ok (.iconst 1, 1) := by decide +kernel
theorem d_Line_open_61 : decode b_Line_open 61 = .ok (.iastore, 1) := by decide +kernel
theorem d_Line_open_62 : decode b_Line_open 62 = .ok (.aload_n 0, 1) := by decide +kernel
theorem d_Line_open_63 : decode b_Line_open 63 = .ok (.getfield 27, 3) := by decide +kernel
theorem d_Line_open_66 : decode b_Line_open 66 = .ok (.aload_n 0, 1) := by decide +kernel
theorem d_Line_open_67 : decode b_Line_open 67 = .ok (.getfield 62, 3) := by decide +kernel
theorem d_Line_open_70 : decode b_Line_open 70 = .ok (.ldc 68, 2) := by decide +kernel
theorem d_Line_open_72 : decode b_Line_open 72 = .ok (.iastore, 1) := by decide +kernel
theorem d_Line_open_73 : decode b_Line_open 73 = .ok (.aload_n 0, 1) := by decide +kernel
theorem d_Line_open_74 : decode b_Line_open 74 = .ok (.getfield 30, 3) := by decide +kernel
theorem d_Line_open_77 : decode b_Line_open 77 = .ok (.aload_n 0, 1) := by decide +kernel
theorem d_Line_open_78 : decode b_Line_open 78 = .ok (.getfield 62, 3) := by decide +kernel
theorem d_Line_open_81 : decode b_Line_open 81 = .ok (.ldc 68, 2) := by decide +kernel
theorem d_Line_open_83 : decode b_Line_open 83 = .ok (.iastore, 1) := by decide +kernel
theorem d_Line_open_84 : decode b_Line_open 84 = .ok (.aload_n 0, 1) := by decide +kernel
theorem d_Line_open_85 : decode b_Line_open 85 = .ok (.getfield 33, 3) := by decide +kernel
theorem d_Line_open_88 : decode b_Line_open 88 = .ok (.aload_n 0, 1) := by decide +kernel
theorem d_Line_open_89 : decode b_Line_open 89 = .ok (.getfield 62, 3) := by decide +kernel
theorem d_Line_open_92 : decode b_Line_open 92 = .ok (.aload_n 3, 1) := by decide +kernel
theorem d_Line_open_93 : decode b_Line_open 93 = .ok (.getfield 69, 3) := by decide +kernel
theorem d_Line_open_96 : decode b_Line_open 96 = .ok (.iastore, 1) := by decide +kernel
theorem d_Line_open_97 : decode b_Line_open 97 = .ok (.aload_n 0, 1) := by decide +kernel
theorem d_Line_open_98 : decode b_Line_open 98 = .ok (.getfield 36, 3) := by decide +kernel
theorem d_Line_open_101 : decode b_Line_open 101 = .ok (.aload_n 0, 1) := by decide +kernel
theorem d_Line_open_102 : decode b_Line_open 102 = .ok (.getfield 62, 3) := by decide +kernel
theorem d_Line_open_105 : decode b_Line_open 105 = .ok (.aload_n 3, 1) := by decide +kernel
theorem d_Line_open_106 : decode b_Line_open 106 = .ok (.getfield 74, 3) := by decide +kernel
theorem d_Line_open_109 : decode b_Line_open 109 = .ok (.iastore, 1) := by decide +kernel
theorem d_Line_open_110 : decode b_Line_open 110 = .ok (.aload_n 0, 1) := by decide +kernel
theorem d_Line_open_111 : decode b_Line_open 111 = .ok (.getfield 39, 3) := by decide +kernel
theorem d_Line_open_114 : decode b_Line_open 114 = .ok (.aload_n 0, 1) := by decide +kernel
theorem d_Line_open_115 : decode b_Line_open 115 = .ok (.getfield 62, 3) := by decide +kernel
theorem d_Line_open_118 : decode b_Line_open 118 = .ok (.iconst 0, 1) := by decide +kernel
theorem d_Line_open_119 : decode b_Line_open 119 = .ok (.iastore, 1) := by decide +kernel
theorem d_Line_open_120 : decode b_Line_open 120 = .ok (.aload_n 0, 1) := by decide +kernel
theorem d_Line_open_121 : decode b_Line_open 121 = .ok (.dup, 1) := by decide +kernel
theorem d_Line_open_122 : decode b_Line_open 122 = .ok (.getfield 62, 3) := by decide +kernel
theorem d_Line_open_125 : decode b_Line_open 125 = .ok (.iconst 1, 1) := by decide +kernel
theorem d_Line_open_126 : decode b_Line_open 126 = .ok (.iadd, 1) := by decide +kernel
theorem d_Line_open_127 : decode b_Line_open 127 = .ok (.putfield 62, 3) := by decide +kernel
theorem d_Line_open_130 : decode b_Line_open 130 = .ok (.iconst 1, 1) := by decide +kernel
theorem d_Line_open_131 : decode b_Line_open 131 = .ok (.ireturn, 1) := by decide +kernel
theorem lk_Line_15 : Cond.fieldLink "TurtleWorld$Line" 15 "TurtleWorld$Line" "list" "[I" ∈ tw_T := tw_i3 18 (by decide +kernel) (by decide +kernel)
theorem lk_Line_18 : Cond.fieldLink "TurtleWorld$Line" 18 "TurtleWorld$Line" "next" "[I" ∈ tw_T := tw_i3 20 (by decide +kernel) (by decide +kernel)
theorem lk_Line_21 : Cond.fieldLink "TurtleWorld$Line" 21 "TurtleWorld$Line" "turns" "[I" ∈ tw_T := tw_i3 22 (by decide +kernel) (by decide +kernel)
theorem lk_Line_24 : Cond.fieldLink "TurtleWorld$Line" 24 "TurtleWorld$Line" "limit" "[I" ∈ tw_T := tw_i3 24 (by decide +kernel) (by decide +kernel)
theorem lk_Line_68 : Cond.constant "TurtleWorld$Line" 68 (-2147483648) ∈ tw_T := tw_i5 20 (by decide +kernel) (by decide +kernel)
theorem lk_Line_33 : Cond.fieldLink "TurtleWorld$Line" 33 "TurtleWorld$Line" "waits" "[I" ∈ tw_T := tw_i3 31 (by decide +kernel) (by decide +kernel)
theorem lk_Line_69 : Cond.fieldLink "TurtleWorld$Line" 69 "TurtleWorld$Waiting" "count" "I" ∈ tw_T := tw_i3 97 (by decide +kernel) (by decide +kernel)
theorem lk_Line_36 : Cond.fieldLink "TurtleWorld$Line" 36 "TurtleWorld$Line" "values" "[I" ∈ tw_T := tw_i3 33 (by decide +kernel) (by decide +kernel)
theorem lk_Line_74 : Cond.fieldLink "TurtleWorld$Line" 74 "TurtleWorld$Waiting" "height" "I" ∈ tw_T := tw_i3 101 (by decide +kernel) (by decide +kernel)
theorem lk_Line_39 : Cond.fieldLink "TurtleWorld$Line" 39 "TurtleWorld$Line" "locals" "[I" ∈ tw_T := tw_i3 35 (by decide +kernel) (by decide +kernel)
